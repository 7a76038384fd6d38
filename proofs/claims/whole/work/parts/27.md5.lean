theorem d_Md_crash_0 : decode b_Md_crash 0 = .ok (.aload_n 0, 1) := by decide +kernel
theorem d_Md_crash_1 : decode b_Md_crash 1 = .ok (.iload_n 1, 1) := by decide +kernel
theorem d_Md_crash_2 : decode b_Md_crash 2 = .ok (.invokevirtual 132, 3) := by decide +kernel
theorem d_Md_crash_5 : decode b_Md_crash 5 = .ok (.ifCond .ne 5, 3) := by decide +kernel
theorem d_Md_crash_8 : decode b_Md_crash 8 = .ok (.iconst 0, 1) := by decide +kernel
theorem d_Md_crash_9 : decode b_Md_crash 9 = .ok (.ireturn, 1) := by decide +kernel
theorem d_Md_crash_10 : decode b_Md_crash 10 = .ok (.aload_n 0, 1) := by decide +kernel
theorem d_Md_crash_11 : decode b_Md_crash 11 = .ok (.dup, 1) := by decide +kernel
theorem d_Md_crash_12 : decode b_Md_crash 12 = .ok (.getfield 28, 3) := by decide +kernel
theorem d_Md_crash_15 : decode b_Md_crash 15 = .ok (.iconst 1, 1) := by decide +kernel
theorem d_Md_crash_16 : decode b_Md_crash 16 = .ok (.iload_n 1, 1) := by decide +kernel
theorem d_Md_crash_17 : decode b_Md_crash 17 = .ok (.ishl, 1) := by decide +kernel
theorem d_Md_crash_18 : decode b_Md_crash 18 = .ok (.iconst (-1), 1) := by decide +kernel
theorem d_Md_crash_19 : decode b_Md_crash 19 = .ok (.ixor, 1) := by decide +kernel
theorem d_Md_crash_20 : decode b_Md_crash 20 = .ok (.iand, 1) := by decide +kernel
theorem d_Md_crash_21 : decode b_Md_crash 21 = .ok (.putfield 28, 3) := by decide +kernel
theorem d_Md_crash_24 : decode b_Md_crash 24 = .ok (.aload_n 0, 1) := by decide +kernel
theorem d_Md_crash_25 : decode b_Md_crash 25 = .ok (.getfield 38, 3) := by decide +kernel
theorem d_Md_crash_28 : decode b_Md_crash 28 = .ok (.iload_n 1, 1) := by decide +kernel
theorem d_Md_crash_29 : decode b_Md_crash 29 = .ok (.iconst 0, 1) := by decide +kernel
theorem d_Md_crash_30 : decode b_Md_crash 30 = .ok (.iastore, 1) := by decide +kernel
theorem d_Md_crash_31 : decode b_Md_crash 31 = .ok (.aload_n 0, 1) := by decide +kernel
theorem d_Md_crash_32 : decode b_Md_crash 32 = .ok (.getfield 47, 3) := by decide +kernel
theorem d_Md_crash_35 : decode b_Md_crash 35 = .ok (.iload_n 1, 1) := by decide +kernel
theorem d_Md_crash_36 : decode b_Md_crash 36 = .ok (.iconst 0, 1) := by decide +kernel
theorem d_Md_crash_37 : decode b_Md_crash 37 = .ok (.iastore, 1) := by decide +kernel
theorem d_Md_crash_38 : decode b_Md_crash 38 = .ok (.aload_n 0, 1) := by decide +kernel
theorem d_Md_crash_39 : decode b_Md_crash 39 = .ok (.getfield 59, 3) := by decide +kernel
theorem d_Md_crash_42 : decode b_Md_crash 42 = .ok (.iload_n 1, 1) := by decide +kernel
theorem d_Md_crash_43 : decode b_Md_crash 43 = .ok (.iconst 0, 1) := by decide +kernel
theorem d_Md_crash_44 : decode b_Md_crash 44 = .ok (.iastore, 1) := by decide +kernel
theorem d_Md_crash_45 : decode b_Md_crash 45 = .ok (.iconst 1, 1) := by decide +kernel
theorem d_Md_crash_46 : decode b_Md_crash 46 = .ok (.ireturn, 1) := by decide +kernel
theorem d_Md_restart_0 : decode b_Md_restart 0 = .ok (.iload_n 1, 1) := by decide +kernel
theorem d_Md_restart_1 : decode b_Md_restart 1 = .ok (.invokestatic 117, 3) := by decide +kernel
theorem d_Md_restart_4 : decode b_Md_restart 4 = .ok (.ifCond .eq 11, 3) := by decide +kernel
theorem d_Md_restart_7 : decode b_Md_restart 7 = .ok (.aload_n 0, 1) := by decide +kernel
theorem d_Md_restart_8 : decode b_Md_restart 8 = .ok (.iload_n 1, 1) := by decide +kernel
theorem d_Md_restart_9 : decode b_Md_restart 9 = .ok (.invokevirtual 132, 3) := by decide +kernel
theorem d_Md_restart_12 : decode b_Md_restart 12 = .ok (.ifCond .eq 5, 3) := by decide +kernel
theorem d_Md_restart_15 : decode b_Md_restart 15 = .ok (.iconst 0, 1) := by decide +kernel
theorem d_Md_restart_16 : decode b_Md_restart 16 = .ok (.ireturn, 1) := by decide +kernel
theorem d_Md_restart_17 : decode b_Md_restart 17 = .ok (.aload_n 0, 1) := by decide +kernel
theorem d_Md_restart_18 : decode b_Md_restart 18 = .ok (.dup, 1) := by decide +kernel
theorem d_Md_restart_19 : decode b_Md_restart 19 = .ok (.getfield 28, 3) := by decide +kernel
theorem d_Md_restart_22 : decode b_Md_restart 22 = .ok (.iconst 1, 1) := by decide +kernel
theorem d_Md_restart_23 : decode b_Md_restart 23 = .ok (.iload_n 1, 1) := by decide +kernel
theorem d_Md_restart_24 : decode b_Md_restart 24 = .ok (.ishl, 1) := by decide +kernel
theorem d_Md_restart_25 : decode b_Md_restart 25 = .ok (.ior, 1) := by decide +kernel
theorem d_Md_restart_26 : decode b_Md_restart 26 = .ok (.putfield 28, 3) := by decide +kernel
theorem d_Md_restart_29 : decode b_Md_restart 29 = .ok (.iconst 1, 1) := by decide +kernel
theorem d_Md_restart_30 : decode b_Md_restart 30 = .ok (.ireturn, 1) := by decide +kernel
theorem d_Md_retire_0 : decode b_Md_retire 0 = .ok (.iload_n 1, 1) := by decide +kernel
theorem d_Md_retire_1 : decode b_Md_retire 1 = .ok (.invokestatic 117, 3) := by decide +kernel
theorem d_Md_retire_4 : decode b_Md_retire 4 = .ok (.ifCond .ne 5, 3) := by decide +kernel
theorem d_Md_retire_7 : decode b_Md_retire 7 = .ok (.iconst (-1), 1) := by decide +kernel
theorem d_Md_retire_8 : decode b_Md_retire 8 = .ok (.ireturn, 1) := by decide +kernel
theorem d_Md_retire_9 : decode b_Md_retire 9 = .ok (.aload_n 0, 1) := by decide +kernel
theorem d_Md_retire_10 : decode b_Md_retire 10 = .ok (.iload_n 1, 1) := by decide +kernel
theorem d_Md_retire_11 : decode b_Md_retire 11 = .ok (.invokevirtual 132, 3) := by decide +kernel
theorem d_Md_retire_14 : decode b_Md_retire 14 = .ok (.ifCond .eq 18, 3) := by decide +kernel
theorem d_Md_retire_17 : decode b_Md_retire 17 = .ok (.aload_n 0, 1) := by decide +kernel
theorem d_Md_retire_18 : decode b_Md_retire 18 = .ok (.getfield 44, 3) := by decide +kernel
theorem d_Md_retire_21 : decode b_Md_retire 21 = .ok (.iload_n 1, 1) := by decide +kernel
theorem d_Md_retire_22 : decode b_Md_retire 22 = .ok (.iaload, 1) := by decide +kernel
theorem d_Md_retire_23 : decode b_Md_retire 23 = .ok (.aload_n 0, 1) := by decide +kernel
theorem d_Md_retire_24 : decode b_Md_retire 24 = .ok (.getfield 32, 3) := by decide +kernel
theorem d_Md_retire_27 : decode b_Md_retire 27 = .ok (.iload_n 1, 1) := by decide +kernel
theorem d_Md_retire_28 : decode b_Md_retire 28 = .ok (.iaload, 1) := by decide +kernel
theorem d_Md_retire_29 : decode b_Md_retire 29 = .ok (.if_icmp .ne 5, 3) := by decide +kernel
theorem d_Md_retire_32 : decode b_Md_retire 32 = .ok (.iconst 0, 1) := by decide +kernel
theorem d_Md_retire_33 : decode b_Md_retire 33 = .ok (.ireturn, 1) := by decide +kernel
theorem d_Md_retire_34 : decode b_Md_retire 34 = .ok (.iconst 0, 1) := by decide +kernel
theorem d_Md_retire_35 : decode b_Md_retire 35 = .ok (.istore_n 2, 1) := by decide +kernel
theorem d_Md_retire_36 : decode b_Md_retire 36 = .ok (.bipush 45, 2) := by decide +kernel
theorem d_Md_retire_38 : decode b_Md_retire 38 = .ok (.iload_n 1, 1) := by decide +kernel
theorem d_Md_retire_39 : decode b_Md_retire 39 = .ok (.imul, 1) := by decide +kernel
theorem d_Md_retire_40 : decode b_Md_retire 40 = .ok (.istore_n 3, 1) := by decide +kernel
theorem d_Md_retire_41 : decode b_Md_retire 41 = .ok (.iload_n 3, 1) := by decide +kernel
theorem d_Md_retire_42 : decode b_Md_retire 42 = .ok (.bipush 45, 2) := by decide +kernel
theorem d_Md_retire_44 : decode b_Md_retire 44 = .ok (.iload_n 1, 1) := by decide +kernel
theorem d_Md_retire_45 : decode b_Md_retire 45 = .ok (.imul, 1) := by decide +kernel
theorem d_Md_retire_46 : decode b_Md_retire 46 = .ok (.bipush 9, 2) := by decide +kernel
theorem d_Md_retire_48 : decode b_Md_retire 48 = .ok (.aload_n 0, 1) := by decide +kernel
theorem d_Md_retire_49 : decode b_Md_retire 49 = .ok (.getfield 32, 3) := by decide +kernel
theorem d_Md_retire_52 : decode b_Md_retire 52 = .ok (.iload_n 1, 1) := by decide +kernel
theorem d_Md_retire_53 : decode b_Md_retire 53 = .ok (.iaload, 1) := by decide +kernel
theorem d_Md_retire_54 : decode b_Md_retire 54 = .ok (.imul, 1) := by decide +kernel
theorem d_Md_retire_55 : decode b_Md_retire 55 = .ok (.iadd, 1) := by decide +kernel
theorem d_Md_retire_56 : decode b_Md_retire 56 = .ok (.if_icmp .ge 47, 3) := by decide +kernel
theorem d_Md_retire_59 : decode b_Md_retire 59 = .ok (.iload_n 2, 1) := by decide +kernel
theorem d_Md_retire_60 : decode b_Md_retire 60 = .ok (.aload_n 0, 1) := by decide +kernel
theorem d_Md_retire_61 : decode b_Md_retire 61 = .ok (.getfield 53, 3) := by decide +kernel
theorem d_Md_retire_64 : decode b_Md_retire 64 = .ok (.iload_n 3, 1) := by decide +kernel
theorem d_Md_retire_65 : decode b_Md_retire 65 = .ok (.iaload, 1) := by decide +kernel
theorem d_Md_retire_66 : decode b_Md_retire 66 = .ok (.ifCond .le 7, 3) := by decide +kernel
theorem d_Md_retire_69 : decode b_Md_retire 69 = .ok (.iconst 1, 1) := by decide +kernel
theorem d_Md_retire_70 : decode b_Md_retire 70 = .ok (.goto 4, 3) := by decide +kernel
theorem d_Md_retire_73 : decode b_Md_retire 73 = .ok (.iconst 0, 1) := by decide +kernel
theorem d_Md_retire_74 : decode b_Md_retire 74 = .ok (.iadd, 1) := by decide +kernel
theorem d_Md_retire_75 : decode b_Md_retire 75 = .ok (.istore_n 2, 1) := by decide +kernel
theorem d_Md_retire_76 : decode b_Md_retire 76 = .ok (.aload_n 0, 1) := by decide +kernel
theorem d_Md_retire_77 : decode b_Md_retire 77 = .ok (.getfield 53, 3) := by decide +kernel
theorem d_Md_retire_80 : decode b_Md_retire 80 = .ok (.iload_n 3, 1) := by decide +kernel
theorem d_Md_retire_81 : decode b_Md_retire 81 = .ok (.iconst 0, 1) := by decide +kernel
theorem d_Md_retire_82 : decode b_Md_retire 82 = .ok (.iastore, 1) := by decide +kernel
theorem d_Md_retire_83 : decode b_Md_retire 83 = .ok (.aload_n 0, 1) := by decide +kernel
theorem d_Md_retire_84 : decode b_Md_retire 84 = .ok (.getfield 56, 3) := by decide +kernel
theorem d_Md_retire_87 : decode b_Md_retire 87 = .ok (.iload_n 3, 1) := by decide +kernel
theorem d_Md_retire_88 : decode b_Md_retire 88 = .ok (.iconst 0, 1) := by decide +kernel
theorem d_Md_retire_89 : decode b_Md_retire 89 = .ok (.iastore, 1) := by decide +kernel
theorem d_Md_retire_90 : decode b_Md_retire 90 = .ok (.aload_n 0, 1) := by decide +kernel
theorem d_Md_retire_91 : decode b_Md_retire 91 = .ok (.getfield 50, 3) := by decide +kernel
theorem d_Md_retire_94 : decode b_Md_retire 94 = .ok (.iload_n 3, 1) := by decide +kernel
theorem d_Md_retire_95 : decode b_Md_retire 95 = .ok (.iconst 0, 1) := by decide +kernel
theorem d_Md_retire_96 : decode b_Md_retire 96 = .ok (.iastore, 1) := by decide +kernel
theorem d_Md_retire_97 : decode b_Md_retire 97 = .ok (.iinc 3 1, 3) := by decide +kernel
theorem d_Md_retire_100 : decode b_Md_retire 100 = .ok (.goto (-59), 3) := by decide +kernel
theorem d_Md_retire_103 : decode b_Md_retire 103 = .ok (.aload_n 0, 1) := by decide +kernel
theorem d_Md_retire_104 : decode b_Md_retire 104 = .ok (.getfield 44, 3) := by decide +kernel
theorem d_Md_retire_107 : decode b_Md_retire 107 = .ok (.iload_n 1, 1) := by decide +kernel
theorem d_Md_retire_108 : decode b_Md_retire 108 = .ok (.aload_n 0, 1) := by decide +kernel
theorem d_Md_retire_109 : decode b_Md_retire 109 = .ok (.getfield 32, 3) := by decide +kernel
theorem d_Md_retire_112 : decode b_Md_retire 112 = .ok (.iload_n 1, 1) := by decide +kernel
theorem d_Md_retire_113 : decode b_Md_retire 113 = .ok (.iaload, 1) := by decide +kernel
theorem d_Md_retire_114 : decode b_Md_retire 114 = .ok (.iastore, 1) := by decide +kernel
theorem d_Md_retire_115 : decode b_Md_retire 115 = .ok (.iload_n 2, 1) := by decide +kernel
theorem d_Md_retire_116 : decode b_Md_retire 116 = .ok (.iconst 1, 1) := by decide +kernel
theorem d_Md_retire_117 : decode b_Md_retire 117 = .ok (.iadd, 1) := by decide +kernel
theorem d_Md_retire_118 : decode b_Md_retire 118 = .ok (.ireturn, 1) := by decide +kernel
theorem d_Md_look_0 : decode b_Md_look 0 = .ok (.iload_n 1, 1) := by decide +kernel
theorem d_Md_look_1 : decode b_Md_look 1 = .ok (.invokestatic 117, 3) := by decide +kernel
theorem d_Md_look_4 : decode b_Md_look 4 = .ok (.ifCond .ne 5, 3) := by decide +kernel
theorem d_Md_look_7 : decode b_Md_look 7 = .ok (.iconst (-1), 1) := by decide +kernel
theorem d_Md_look_8 : decode b_Md_look 8 = .ok (.ireturn, 1) := by decide +kernel
theorem d_Md_look_9 : decode b_Md_look 9 = .ok (.aload_n 0, 1) := by decide +kernel
theorem d_Md_look_10 : decode b_Md_look 10 = .ok (.getfield 59, 3) := by decide +kernel
theorem d_Md_look_13 : decode b_Md_look 13 = .ok (.iload_n 1, 1) := by decide +kernel
theorem d_Md_look_14 : decode b_Md_look 14 = .ok (.iaload, 1) := by decide +kernel
theorem d_Md_look_15 : decode b_Md_look 15 = .ok (.ifCond .le 7, 3) := by decide +kernel
theorem d_Md_look_18 : decode b_Md_look 18 = .ok (.iconst 1, 1) := by decide +kernel
theorem d_Md_look_19 : decode b_Md_look 19 = .ok (.goto 4, 3) := by decide +kernel
theorem d_Md_look_22 : decode b_Md_look 22 = .ok (.iconst 0, 1) := by decide +kernel
theorem d_Md_look_23 : decode b_Md_look 23 = .ok (.istore_n 3, 1) := by decide +kernel
theorem d_Md_look_24 : decode b_Md_look 24 = .ok (.iload_n 2, 1) := by decide +kernel
theorem d_Md_look_25 : decode b_Md_look 25 = .ok (.tableswitch 161 0 10 #[59, 68, 75, 82, 88, 95, 102, 109, 116, 131, 146], 59) := by decide +kernel
theorem d_Md_look_84 : decode b_Md_look 84 = .ok (.aload_n 0, 1) := by decide +kernel
theorem d_Md_look_85 : decode b_Md_look 85 = .ok (.getfield 28, 3) := by decide +kernel
theorem d_Md_look_88 : decode b_Md_look 88 = .ok (.iload_n 1, 1) := by decide +kernel
theorem d_Md_look_89 : decode b_Md_look 89 = .ok (.ishr, 1) := by decide +kernel
theorem d_Md_look_90 : decode b_Md_look 90 = .ok (.iconst 1, 1) := by decide +kernel
theorem d_Md_look_91 : decode b_Md_look 91 = .ok (.iand, 1) := by decide +kernel
theorem d_Md_look_92 : decode b_Md_look 92 = .ok (.ireturn, 1) := by decide +kernel
theorem d_Md_look_93 : decode b_Md_look 93 = .ok (.aload_n 0, 1) := by decide +kernel
theorem d_Md_look_94 : decode b_Md_look 94 = .ok (.getfield 32, 3) := by decide +kernel
theorem d_Md_look_97 : decode b_Md_look 97 = .ok (.iload_n 1, 1) := by decide +kernel
theorem d_Md_look_98 : decode b_Md_look 98 = .ok (.iaload, 1) := by decide +kernel
theorem d_Md_look_99 : decode b_Md_look 99 = .ok (.ireturn, 1) := by decide +kernel
theorem d_Md_look_100 : decode b_Md_look 100 = .ok (.aload_n 0, 1) := by decide +kernel
theorem d_Md_look_101 : decode b_Md_look 101 = .ok (.getfield 35, 3) := by decide +kernel
theorem d_Md_look_104 : decode b_Md_look 104 = .ok (.iload_n 1, 1) := by decide +kernel
theorem d_Md_look_105 : decode b_Md_look 105 = .ok (.iaload, 1) := by decide +kernel
theorem d_Md_look_106 : decode b_Md_look 106 = .ok (.ireturn, 1) := by decide +kernel
theorem d_Md_look_107 : decode b_Md_look 107 = .ok (.aload_n 0, 1) := by decide +kernel
theorem d_Md_look_108 : decode b_Md_look 108 = .ok (.iload_n 1, 1) := by decide +kernel
theorem d_Md_look_109 : decode b_Md_look 109 = .ok (.invokevirtual 110, 3) := by decide +kernel
theorem d_Md_look_112 : decode b_Md_look 112 = .ok (.ireturn, 1) := by decide +kernel
theorem d_Md_look_113 : decode b_Md_look 113 = .ok (.aload_n 0, 1) := by decide +kernel
theorem d_Md_look_114 : decode b_Md_look 114 = .ok (.getfield 41, 3) := by decide +kernel
theorem d_Md_look_117 : decode b_Md_look 117 = .ok (.iload_n 1, 1) := by decide +kernel
theorem d_Md_look_118 : decode b_Md_look 118 = .ok (.iaload, 1) := by decide +kernel
theorem d_Md_look_119 : decode b_Md_look 119 = .ok (.ireturn, 1) := by decide +kernel
theorem d_Md_look_120 : decode b_Md_look 120 = .ok (.aload_n 0, 1) := by decide +kernel
theorem d_Md_look_121 : decode b_Md_look 121 = .ok (.getfield 44, 3) := by decide +kernel
theorem d_Md_look_124 : decode b_Md_look 124 = .ok (.iload_n 1, 1) := by decide +kernel
theorem d_Md_look_125 : decode b_Md_look 125 = .ok (.iaload, 1) := by decide +kernel
theorem d_Md_look_126 : decode b_Md_look 126 = .ok (.ireturn, 1) := by decide +kernel
theorem d_Md_look_127 : decode b_Md_look 127 = .ok (.aload_n 0, 1) := by decide +kernel
theorem d_Md_look_128 : decode b_Md_look 128 = .ok (.getfield 47, 3) := by decide +kernel
theorem d_Md_look_131 : decode b_Md_look 131 = .ok (.iload_n 1, 1) := by decide +kernel
theorem d_Md_look_132 : decode b_Md_look 132 = .ok (.iaload, 1) := by decide +kernel
theorem d_Md_look_133 : decode b_Md_look 133 = .ok (.ireturn, 1) := by decide +kernel
theorem d_Md_look_134 : decode b_Md_look 134 = .ok (.aload_n 0, 1) := by decide +kernel
theorem d_Md_look_135 : decode b_Md_look 135 = .ok (.getfield 59, 3) := by decide +kernel
theorem d_Md_look_138 : decode b_Md_look 138 = .ok (.iload_n 1, 1) := by decide +kernel
theorem d_Md_look_139 : decode b_Md_look 139 = .ok (.iaload, 1) := by decide +kernel
theorem d_Md_look_140 : decode b_Md_look 140 = .ok (.ireturn, 1) := by decide +kernel
theorem d_Md_look_141 : decode b_Md_look 141 = .ok (.iload_n 3, 1) := by decide +kernel
theorem d_Md_look_142 : decode b_Md_look 142 = .ok (.ifCond .eq 12, 3) := by decide +kernel
theorem d_Md_look_145 : decode b_Md_look 145 = .ok (.aload_n 0, 1) := by decide +kernel
theorem d_Md_look_146 : decode b_Md_look 146 = .ok (.getfield 62, 3) := by decide +kernel
theorem d_Md_look_149 : decode b_Md_look 149 = .ok (.iload_n 1, 1) := by decide +kernel
theorem d_Md_look_150 : decode b_Md_look 150 = .ok (.iaload, 1) := by decide +kernel
theorem d_Md_look_151 : decode b_Md_look 151 = .ok (.goto 4, 3) := by decide +kernel
theorem d_Md_look_154 : decode b_Md_look 154 = .ok (.iconst 0, 1) := by decide +kernel
theorem d_Md_look_155 : decode b_Md_look 155 = .ok (.ireturn, 1) := by decide +kernel
theorem d_Md_look_156 : decode b_Md_look 156 = .ok (.iload_n 3, 1) := by decide +kernel
theorem d_Md_look_157 : decode b_Md_look 157 = .ok (.ifCond .eq 12, 3) := by decide +kernel
theorem d_Md_look_160 : decode b_Md_look 160 = .ok (.aload_n 0, 1) := by decide +kernel
theorem d_Md_look_161 : decode b_Md_look 161 = .ok (.getfield 65, 3) := by decide +kernel
theorem d_Md_look_164 : decode b_Md_look 164 = .ok (.iload_n 1, 1) := by decide +kernel
theorem d_Md_look_165 : decode b_Md_look 165 = .ok (.iaload, 1) := by decide +kernel
theorem d_Md_look_166 : decode b_Md_look 166 = .ok (.goto 4, 3) := by decide +kernel
theorem d_Md_look_169 : decode b_Md_look 169 = .ok (.iconst 0, 1) := by decide +kernel
theorem d_Md_look_170 : decode b_Md_look 170 = .ok (.ireturn, 1) := by decide +kernel
theorem d_Md_look_171 : decode b_Md_look 171 = .ok (.iload_n 3, 1) := by decide +kernel
theorem d_Md_look_172 : decode b_Md_look 172 = .ok (.ifCond .eq 12, 3) := by decide +kernel
theorem d_Md_look_175 : decode b_Md_look 175 = .ok (.aload_n 0, 1) := by decide +kernel
theorem d_Md_look_176 : decode b_Md_look 176 = .ok (.getfield 68, 3) := by decide +kernel
theorem d_Md_look_179 : decode b_Md_look 179 = .ok (.iload_n 1, 1) := by decide +kernel
theorem d_Md_look_180 : decode b_Md_look 180 = .ok (.iaload, 1) := by decide +kernel
theorem d_Md_look_181 : decode b_Md_look 181 = .ok (.goto 4, 3) := by decide +kernel
theorem d_Md_look_184 : decode b_Md_look 184 = .ok (.iconst 0, 1) := by decide +kernel
theorem d_Md_look_185 : decode b_Md_look 185 = .ok (.ireturn, 1) := by decide +kernel
theorem d_Md_look_186 : decode b_Md_look 186 = .ok (.iconst (-1), 1) := by decide +kernel
theorem d_Md_look_187 : decode b_Md_look 187 = .ok (.ireturn, 1) := by decide +kernel
theorem d_Md_value_0 : decode b_Md_value 0 = .ok (.iload_n 1, 1) := by decide +kernel
theorem d_Md_value_1 : decode b_Md_value 1 = .ok (.invokestatic 117, 3) := by decide +kernel
theorem d_Md_value_4 : decode b_Md_value 4 = .ok (.ifCond .eq 12, 3) := by decide +kernel
theorem d_Md_value_7 : decode b_Md_value 7 = .ok (.iload_n 2, 1) := by decide +kernel
theorem d_Md_value_8 : decode b_Md_value 8 = .ok (.ifCond .lt 8, 3) := by decide +kernel
theorem d_Md_value_11 : decode b_Md_value 11 = .ok (.iload_n 2, 1) := by decide +kernel
theorem d_Md_value_12 : decode b_Md_value 12 = .ok (.iconst 3, 1) := by decide +kernel
theorem d_Md_value_13 : decode b_Md_value 13 = .ok (.if_icmp .le 5, 3) := by decide +kernel
theorem d_Md_value_16 : decode b_Md_value 16 = .ok (.iconst 0, 1) := by decide +kernel
theorem d_Md_value_17 : decode b_Md_value 17 = .ok (.ireturn, 1) := by decide +kernel
theorem d_Md_value_18 : decode b_Md_value 18 = .ok (.aload_n 0, 1) := by decide +kernel
theorem d_Md_value_19 : decode b_Md_value 19 = .ok (.iload_n 1, 1) := by decide +kernel
theorem d_Md_value_20 : decode b_Md_value 20 = .ok (.invokevirtual 107, 3) := by decide +kernel
theorem d_Md_value_23 : decode b_Md_value 23 = .ok (.aload_n 0, 1) := by decide +kernel
theorem d_Md_value_24 : decode b_Md_value 24 = .ok (.getfield 80, 3) := by decide +kernel
theorem d_Md_value_27 : decode b_Md_value 27 = .ok (.iload_n 2, 1) := by decide +kernel
theorem d_Md_value_28 : decode b_Md_value 28 = .ok (.iaload, 1) := by decide +kernel
theorem d_Md_value_29 : decode b_Md_value 29 = .ok (.ireturn, 1) := by decide +kernel
theorem d_Md_promised_0 : decode b_Md_promised 0 = .ok (.iload_n 1, 1) := by decide +kernel
theorem d_Md_promised_1 : decode b_Md_promised 1 = .ok (.iload_n 2, 1) := by decide +kernel
theorem d_Md_promised_2 : decode b_Md_promised 2 = .ok (.iload_n 3, 1) := by decide +kernel
theorem d_Md_promised_3 : decode b_Md_promised 3 = .ok (.invokestatic 161, 3) := by decide +kernel
theorem d_Md_promised_6 : decode b_Md_promised 6 = .ok (.ifCond .eq 22, 3) := by decide +kernel
theorem d_Md_promised_9 : decode b_Md_promised 9 = .ok (.aload_n 0, 1) := by decide +kernel
theorem d_Md_promised_10 : decode b_Md_promised 10 = .ok (.getfield 50, 3) := by decide +kernel
theorem d_Md_promised_13 : decode b_Md_promised 13 = .ok (.bipush 45, 2) := by decide +kernel
theorem d_Md_promised_15 : decode b_Md_promised 15 = .ok (.iload_n 1, 1) := by decide +kernel
theorem d_Md_promised_16 : decode b_Md_promised 16 = .ok (.imul, 1) := by decide +kernel
theorem d_Md_promised_17 : decode b_Md_promised 17 = .ok (.bipush 9, 2) := by decide +kernel
theorem d_Md_promised_19 : decode b_Md_promised 19 = .ok (.iload_n 2, 1) := by decide +kernel
theorem d_Md_promised_20 : decode b_Md_promised 20 = .ok (.imul, 1) := by decide +kernel
theorem d_Md_promised_21 : decode b_Md_promised 21 = .ok (.iadd, 1) := by decide +kernel
theorem d_Md_promised_22 : decode b_Md_promised 22 = .ok (.iload_n 3, 1) := by decide +kernel
theorem d_Md_promised_23 : decode b_Md_promised 23 = .ok (.iadd, 1) := by decide +kernel
theorem d_Md_promised_24 : decode b_Md_promised 24 = .ok (.iaload, 1) := by decide +kernel
theorem d_Md_promised_25 : decode b_Md_promised 25 = .ok (.goto 4, 3) := by decide +kernel
theorem d_Md_promised_28 : decode b_Md_promised 28 = .ok (.iconst (-1), 1) := by decide +kernel
theorem d_Md_promised_29 : decode b_Md_promised 29 = .ok (.ireturn, 1) := by decide +kernel
theorem d_Md_vote_0 : decode b_Md_vote 0 = .ok (.iload_n 1, 1) := by decide +kernel
theorem d_Md_vote_1 : decode b_Md_vote 1 = .ok (.iload_n 2, 1) := by decide +kernel
theorem d_Md_vote_2 : decode b_Md_vote 2 = .ok (.iload_n 3, 1) := by decide +kernel
theorem d_Md_vote_3 : decode b_Md_vote 3 = .ok (.invokestatic 161, 3) := by decide +kernel
theorem d_Md_vote_6 : decode b_Md_vote 6 = .ok (.ifCond .ne 5, 3) := by decide +kernel
theorem d_Md_vote_9 : decode b_Md_vote 9 = .ok (.iconst (-1), 1) := by decide +kernel
theorem d_Md_vote_10 : decode b_Md_vote 10 = .ok (.ireturn, 1) := by decide +kernel
theorem d_Md_vote_11 : decode b_Md_vote 11 = .ok (.bipush 45, 2) := by decide +kernel
theorem d_Md_vote_13 : decode b_Md_vote 13 = .ok (.iload_n 1, 1) := by decide +kernel
theorem d_Md_vote_14 : decode b_Md_vote 14 = .ok (.imul, 1) := by decide +kernel
theorem d_Md_vote_15 : decode b_Md_vote 15 = .ok (.bipush 9, 2) := by decide +kernel
theorem d_Md_vote_17 : decode b_Md_vote 17 = .ok (.iload_n 2, 1) := by decide +kernel
theorem d_Md_vote_18 : decode b_Md_vote 18 = .ok (.imul, 1) := by decide +kernel
theorem d_Md_vote_19 : decode b_Md_vote 19 = .ok (.iadd, 1) := by decide +kernel
theorem d_Md_vote_20 : decode b_Md_vote 20 = .ok (.iload_n 3, 1) := by decide +kernel
theorem d_Md_vote_21 : decode b_Md_vote 21 = .ok (.iadd, 1) := by decide +kernel
theorem d_Md_vote_22 : decode b_Md_vote 22 = .ok (.istore 4, 2) := by decide +kernel
theorem d_Md_vote_24 : decode b_Md_vote 24 = .ok (.aload_n 0, 1) := by decide +kernel
theorem d_Md_vote_25 : decode b_Md_vote 25 = .ok (.getfield 53, 3) := by decide +kernel
theorem d_Md_vote_28 : decode b_Md_vote 28 = .ok (.iload 4, 2) := by decide +kernel
theorem d_Md_vote_30 : decode b_Md_vote 30 = .ok (.iaload, 1) := by decide +kernel
theorem d_Md_vote_31 : decode b_Md_vote 31 = .ok (.ifCond .le 24, 3) := by decide +kernel
theorem d_Md_vote_34 : decode b_Md_vote 34 = .ok (.bipush 64, 2) := by decide +kernel
theorem d_Md_vote_36 : decode b_Md_vote 36 = .ok (.aload_n 0, 1) := by decide +kernel
theorem d_Md_vote_37 : decode b_Md_vote 37 = .ok (.getfield 53, 3) := by decide +kernel
theorem d_Md_vote_40 : decode b_Md_vote 40 = .ok (.iload 4, 2) := by decide +kernel
theorem d_Md_vote_42 : decode b_Md_vote 42 = .ok (.iaload, 1) := by decide +kernel
theorem d_Md_vote_43 : decode b_Md_vote 43 = .ok (.imul, 1) := by decide +kernel
theorem d_Md_vote_44 : decode b_Md_vote 44 = .ok (.aload_n 0, 1) := by decide +kernel
theorem d_Md_vote_45 : decode b_Md_vote 45 = .ok (.getfield 56, 3) := by decide +kernel
theorem d_Md_vote_48 : decode b_Md_vote 48 = .ok (.iload 4, 2) := by decide +kernel
theorem d_Md_vote_50 : decode b_Md_vote 50 = .ok (.iaload, 1) := by decide +kernel
theorem d_Md_vote_51 : decode b_Md_vote 51 = .ok (.iadd, 1) := by decide +kernel
theorem d_Md_vote_52 : decode b_Md_vote 52 = .ok (.goto 4, 3) := by decide +kernel
theorem d_Md_vote_55 : decode b_Md_vote 55 = .ok (.iconst 0, 1) := by decide +kernel
theorem d_Md_vote_56 : decode b_Md_vote 56 = .ok (.ireturn, 1) := by decide +kernel
theorem d_Md_known_0 : decode b_Md_known 0 = .ok (.iload_n 1, 1) := by decide +kernel
theorem d_Md_known_1 : decode b_Md_known 1 = .ok (.iconst 0, 1) := by decide +kernel
theorem d_Md_known_2 : decode b_Md_known 2 = .ok (.iload_n 2, 1) := by decide +kernel
theorem d_Md_known_3 : decode b_Md_known 3 = .ok (.invokestatic 161, 3) := by decide +kernel
theorem d_Md_known_6 : decode b_Md_known 6 = .ok (.ifCond .eq 12, 3) := by decide +kernel
theorem d_Md_known_9 : decode b_Md_known 9 = .ok (.aload_n 0, 1) := by decide +kernel
theorem d_Md_known_10 : decode b_Md_known 10 = .ok (.iload_n 1, 1) := by decide +kernel
theorem d_Md_known_11 : decode b_Md_known 11 = .ok (.iload_n 2, 1) := by decide +kernel
theorem d_Md_known_12 : decode b_Md_known 12 = .ok (.invokevirtual 121, 3) := by decide +kernel
theorem d_Md_known_15 : decode b_Md_known 15 = .ok (.ifCond .ne 5, 3) := by decide +kernel
theorem d_Md_known_18 : decode b_Md_known 18 = .ok (.iconst (-1), 1) := by decide +kernel
theorem d_Md_known_19 : decode b_Md_known 19 = .ok (.ireturn, 1) := by decide +kernel
theorem d_Md_known_20 : decode b_Md_known 20 = .ok (.aload_n 0, 1) := by decide +kernel
theorem d_Md_known_21 : decode b_Md_known 21 = .ok (.getfield 25, 3) := by decide +kernel
theorem d_Md_known_24 : decode b_Md_known 24 = .ok (.bipush 9, 2) := by decide +kernel
theorem d_Md_known_26 : decode b_Md_known 26 = .ok (.aload_n 0, 1) := by decide +kernel
theorem d_Md_known_27 : decode b_Md_known 27 = .ok (.getfield 32, 3) := by decide +kernel
theorem d_Md_known_30 : decode b_Md_known 30 = .ok (.iload_n 1, 1) := by decide +kernel
theorem d_Md_known_31 : decode b_Md_known 31 = .ok (.iaload, 1) := by decide +kernel
theorem d_Md_known_32 : decode b_Md_known 32 = .ok (.imul, 1) := by decide +kernel
theorem d_Md_known_33 : decode b_Md_known 33 = .ok (.iload_n 2, 1) := by decide +kernel
theorem d_Md_known_34 : decode b_Md_known 34 = .ok (.iadd, 1) := by decide +kernel
theorem d_Md_known_35 : decode b_Md_known 35 = .ok (.iaload, 1) := by decide +kernel
theorem d_Md_known_36 : decode b_Md_known 36 = .ok (.ireturn, 1) := by decide +kernel
theorem d_Md_reply_0 : decode b_Md_reply 0 = .ok (.iload_n 1, 1) := by decide +kernel
theorem d_Md_reply_1 : decode b_Md_reply 1 = .ok (.iconst 1, 1) := by decide +kernel
theorem d_Md_reply_2 : decode b_Md_reply 2 = .ok (.if_icmp .lt 11, 3) := by decide +kernel
theorem d_Md_reply_5 : decode b_Md_reply 5 = .ok (.iload_n 1, 1) := by decide +kernel
theorem d_Md_reply_6 : decode b_Md_reply 6 = .ok (.aload_n 0, 1) := by decide +kernel
theorem d_Md_reply_7 : decode b_Md_reply 7 = .ok (.getfield 129, 3) := by decide +kernel
theorem d_Md_reply_10 : decode b_Md_reply 10 = .ok (.if_icmp .le 7, 3) := by decide +kernel
theorem d_Md_reply_13 : decode b_Md_reply 13 = .ok (.iconst 0, 1) := by decide +kernel
theorem d_Md_reply_14 : decode b_Md_reply 14 = .ok (.goto 9, 3) := by decide +kernel
theorem d_Md_reply_17 : decode b_Md_reply 17 = .ok (.aload_n 0, 1) := by decide +kernel
theorem d_Md_reply_18 : decode b_Md_reply 18 = .ok (.getfield 22, 3) := by decide +kernel
theorem d_Md_reply_21 : decode b_Md_reply 21 = .ok (.iload_n 1, 1) := by decide +kernel
theorem d_Md_reply_22 : decode b_Md_reply 22 = .ok (.iaload, 1) := by decide +kernel
theorem d_Md_reply_23 : decode b_Md_reply 23 = .ok (.ireturn, 1) := by decide +kernel
theorem d_Md_heard_0 : decode b_Md_heard 0 = .ok (.iload_n 1, 1) := by decide +kernel
theorem d_Md_heard_1 : decode b_Md_heard 1 = .ok (.iconst 1, 1) := by decide +kernel
theorem d_Md_heard_2 : decode b_Md_heard 2 = .ok (.if_icmp .lt 11, 3) := by decide +kernel
theorem d_Md_heard_5 : decode b_Md_heard 5 = .ok (.iload_n 1, 1) := by decide +kernel
theorem d_Md_heard_6 : decode b_Md_heard 6 = .ok (.aload_n 0, 1) := by decide +kernel
theorem d_Md_heard_7 : decode b_Md_heard 7 = .ok (.getfield 129, 3) := by decide +kernel
theorem d_Md_heard_10 : decode b_Md_heard 10 = .ok (.if_icmp .le 7, 3) := by decide +kernel
theorem d_Md_heard_13 : decode b_Md_heard 13 = .ok (.iconst 0, 1) := by decide +kernel
theorem d_Md_heard_14 : decode b_Md_heard 14 = .ok (.goto 9, 3) := by decide +kernel
theorem d_Md_heard_17 : decode b_Md_heard 17 = .ok (.aload_n 0, 1) := by decide +kernel
theorem d_Md_heard_18 : decode b_Md_heard 18 = .ok (.getfield 19, 3) := by decide +kernel
theorem d_Md_heard_21 : decode b_Md_heard 21 = .ok (.iload_n 1, 1) := by decide +kernel
theorem d_Md_heard_22 : decode b_Md_heard 22 = .ok (.iaload, 1) := by decide +kernel
theorem d_Md_heard_23 : decode b_Md_heard 23 = .ok (.ireturn, 1) := by decide +kernel
def wp_Md_crash (z1 : MmdT) (x1 : Int32) (post : Int32 → MmdT → Prop) : Prop := (wp_Md_isUp z1 x1 (fun (r1 : Int32) (u2 : MmdT) => ((r1 = (0 : Int32) → (post (0 : Int32) u2)) ∧ (¬ r1 = (0 : Int32) → (∀ w4 : MmdT, w4 = mmd_s_up u2 ((mmd_up u2) &&& (((1 : Int32) <<< (x1 &&& 31)) ^^^ (-1 : Int32))) → (vp_in x1 6 ∧ (∀ w5 : MmdT, w5 = mmd_s_known w4 (upd (mmd_known w4) (x1).toNatClampNeg (0 : Int32)) → (vp_in x1 6 ∧ (∀ w6 : MmdT, w6 = mmd_s_pending w5 (upd (mmd_pending w5) (x1).toNatClampNeg (0 : Int32)) → (vp_in x1 6 ∧ (∀ w7 : MmdT, w7 = mmd_s_slot w6 (upd (mmd_slot w6) (x1).toNatClampNeg (0 : Int32)) → (post (1 : Int32) w7))))))))))))
abbrev rm_Md_crash : Room := { frames := 2, cells := 0, slots := 0, locals := 41 }
def wp_Md_restart (z1 : MmdT) (x1 : Int32) (post : Int32 → MmdT → Prop) : Prop := (wp_Md_node x1 (fun (r1 : Int32) => ((r1 = (0 : Int32) → (post (0 : Int32) z1)) ∧ (¬ r1 = (0 : Int32) → (wp_Md_isUp z1 x1 (fun (r3 : Int32) (u4 : MmdT) => ((r3 = (0 : Int32) → (∀ w6 : MmdT, w6 = mmd_s_up u4 ((mmd_up u4) ||| ((1 : Int32) <<< (x1 &&& 31))) → (post (1 : Int32) w6))) ∧ (¬ r3 = (0 : Int32) → (post (0 : Int32) u4)))))))))
abbrev rm_Md_restart : Room := { frames := 2, cells := 0, slots := 0, locals := 41 }
def wp_Md_retire_L41 (K41 : Int32 → Int32 → Int32 → MmdT → Prop) : Nat → Int32 → Int32 → Int32 → MmdT → Prop
  | 0, _, _, _, _ => False
  | n41 + 1, y1, y2, y3, z1 => (vp_in y1 6 ∧ (((((45 : Int32) * y1) + ((9 : Int32) * ((mmd_configuration z1) (y1).toNatClampNeg))) ≤ y3 → K41 y1 y2 y3 z1) ∧ (¬ (((45 : Int32) * y1) + ((9 : Int32) * ((mmd_configuration z1) (y1).toNatClampNeg))) ≤ y3 → (vp_in y3 270 ∧ ((((mmd_voteBallot z1) (y3).toNatClampNeg) ≤ (0 : Int32) → (∀ v10 : Int32, v10 = (y2 + (0 : Int32)) → (vp_in y3 270 ∧ (∀ w11 : MmdT, w11 = mmd_s_voteBallot z1 (upd (mmd_voteBallot z1) (y3).toNatClampNeg (0 : Int32)) → (vp_in y3 270 ∧ (∀ w12 : MmdT, w12 = mmd_s_voteCommand w11 (upd (mmd_voteCommand w11) (y3).toNatClampNeg (0 : Int32)) → (vp_in y3 270 ∧ (∀ w13 : MmdT, w13 = mmd_s_promised w12 (upd (mmd_promised w12) (y3).toNatClampNeg (0 : Int32)) → (∀ v14 : Int32, v14 = (y3 + (1 : Int32)) → wp_Md_retire_L41 K41 n41 y1 v10 v14 w13))))))))) ∧ (¬ ((mmd_voteBallot z1) (y3).toNatClampNeg) ≤ (0 : Int32) → (∀ v15 : Int32, v15 = (y2 + (1 : Int32)) → (vp_in y3 270 ∧ (∀ w16 : MmdT, w16 = mmd_s_voteBallot z1 (upd (mmd_voteBallot z1) (y3).toNatClampNeg (0 : Int32)) → (vp_in y3 270 ∧ (∀ w17 : MmdT, w17 = mmd_s_voteCommand w16 (upd (mmd_voteCommand w16) (y3).toNatClampNeg (0 : Int32)) → (vp_in y3 270 ∧ (∀ w18 : MmdT, w18 = mmd_s_promised w17 (upd (mmd_promised w17) (y3).toNatClampNeg (0 : Int32)) → (∀ v19 : Int32, v19 = (y3 + (1 : Int32)) → wp_Md_retire_L41 K41 n41 y1 v15 v19 w18))))))))))))))
def wp_Md_retire (z1 : MmdT) (x1 : Int32) (post : Int32 → MmdT → Prop) : Prop := (wp_Md_node x1 (fun (r1 : Int32) => ((r1 = (0 : Int32) → (post (-1 : Int32) z1)) ∧ (¬ r1 = (0 : Int32) → (wp_Md_isUp z1 x1 (fun (r3 : Int32) (u4 : MmdT) => ((r3 = (0 : Int32) → (post (0 : Int32) u4)) ∧ (¬ r3 = (0 : Int32) → (vp_in x1 6 ∧ (vp_in x1 6 ∧ ((((mmd_retired u4) (x1).toNatClampNeg) = ((mmd_configuration u4) (x1).toNatClampNeg) → (post (0 : Int32) u4)) ∧ (¬ ((mmd_retired u4) (x1).toNatClampNeg) = ((mmd_configuration u4) (x1).toNatClampNeg) → (∀ v7 : Int32, v7 = ((45 : Int32) * x1) → (∃ n41 : Nat, wp_Md_retire_L41 (fun (y1 : Int32) (y2 : Int32) (y3 : Int32) (z1 : MmdT) => (vp_in y1 6 ∧ (vp_in y1 6 ∧ (∀ w20 : MmdT, w20 = mmd_s_retired z1 (upd (mmd_retired z1) (y1).toNatClampNeg ((mmd_configuration z1) (y1).toNatClampNeg)) → (post (y2 + (1 : Int32)) w20))))) n41 x1 (0 : Int32) v7 u4))))))))))))))
abbrev rm_Md_retire : Room := { frames := 2, cells := 0, slots := 0, locals := 41 }
def wp_Md_look (z1 : MmdT) (x1 : Int32) (x2 : Int32) (post : Int32 → MmdT → Prop) : Prop := (wp_Md_node x1 (fun (r1 : Int32) => ((r1 = (0 : Int32) → (post (-1 : Int32) z1)) ∧ (¬ r1 = (0 : Int32) → (vp_in x1 6 ∧ ((((mmd_slot z1) (x1).toNatClampNeg) ≤ (0 : Int32) → ((x2 = (0 : Int32) → (post (((mmd_up z1) >>> (x1 &&& 31)) &&& (1 : Int32)) z1)) ∧ (¬ x2 = (0 : Int32) → ((x2 = (1 : Int32) → (vp_in x1 6 ∧ (post ((mmd_configuration z1) (x1).toNatClampNeg) z1))) ∧ (¬ x2 = (1 : Int32) → ((x2 = (2 : Int32) → (vp_in x1 6 ∧ (post ((mmd_executed z1) (x1).toNatClampNeg) z1))) ∧ (¬ x2 = (2 : Int32) → ((x2 = (3 : Int32) → (wp_Md_membersOf z1 x1 (fun (r8 : Int32) (u9 : MmdT) => (post r8 u9)))) ∧ (¬ x2 = (3 : Int32) → ((x2 = (4 : Int32) → (vp_in x1 6 ∧ (post ((mmd_last z1) (x1).toNatClampNeg) z1))) ∧ (¬ x2 = (4 : Int32) → ((x2 = (5 : Int32) → (vp_in x1 6 ∧ (post ((mmd_retired z1) (x1).toNatClampNeg) z1))) ∧ (¬ x2 = (5 : Int32) → ((x2 = (6 : Int32) → (vp_in x1 6 ∧ (post ((mmd_pending z1) (x1).toNatClampNeg) z1))) ∧ (¬ x2 = (6 : Int32) → ((x2 = (7 : Int32) → (vp_in x1 6 ∧ (post ((mmd_slot z1) (x1).toNatClampNeg) z1))) ∧ (¬ x2 = (7 : Int32) → ((x2 = (8 : Int32) → (post (0 : Int32) z1)) ∧ (¬ x2 = (8 : Int32) → ((x2 = (9 : Int32) → (post (0 : Int32) z1)) ∧ (¬ x2 = (9 : Int32) → ((x2 = (10 : Int32) → (post (0 : Int32) z1)) ∧ (¬ x2 = (10 : Int32) → (post (-1 : Int32) z1)))))))))))))))))))))))) ∧ (¬ ((mmd_slot z1) (x1).toNatClampNeg) ≤ (0 : Int32) → ((x2 = (0 : Int32) → (post (((mmd_up z1) >>> (x1 &&& 31)) &&& (1 : Int32)) z1)) ∧ (¬ x2 = (0 : Int32) → ((x2 = (1 : Int32) → (vp_in x1 6 ∧ (post ((mmd_configuration z1) (x1).toNatClampNeg) z1))) ∧ (¬ x2 = (1 : Int32) → ((x2 = (2 : Int32) → (vp_in x1 6 ∧ (post ((mmd_executed z1) (x1).toNatClampNeg) z1))) ∧ (¬ x2 = (2 : Int32) → ((x2 = (3 : Int32) → (wp_Md_membersOf z1 x1 (fun (r24 : Int32) (u25 : MmdT) => (post r24 u25)))) ∧ (¬ x2 = (3 : Int32) → ((x2 = (4 : Int32) → (vp_in x1 6 ∧ (post ((mmd_last z1) (x1).toNatClampNeg) z1))) ∧ (¬ x2 = (4 : Int32) → ((x2 = (5 : Int32) → (vp_in x1 6 ∧ (post ((mmd_retired z1) (x1).toNatClampNeg) z1))) ∧ (¬ x2 = (5 : Int32) → ((x2 = (6 : Int32) → (vp_in x1 6 ∧ (post ((mmd_pending z1) (x1).toNatClampNeg) z1))) ∧ (¬ x2 = (6 : Int32) → ((x2 = (7 : Int32) → (vp_in x1 6 ∧ (post ((mmd_slot z1) (x1).toNatClampNeg) z1))) ∧ (¬ x2 = (7 : Int32) → ((x2 = (8 : Int32) → (vp_in x1 6 ∧ (post ((mmd_ballot z1) (x1).toNatClampNeg) z1))) ∧ (¬ x2 = (8 : Int32) → ((x2 = (9 : Int32) → (vp_in x1 6 ∧ (post ((mmd_promisers z1) (x1).toNatClampNeg) z1))) ∧ (¬ x2 = (9 : Int32) → ((x2 = (10 : Int32) → (vp_in x1 6 ∧ (post ((mmd_voters z1) (x1).toNatClampNeg) z1))) ∧ (¬ x2 = (10 : Int32) → (post (-1 : Int32) z1))))))))))))))))))))))))))))))
abbrev rm_Md_look : Room := { frames := 4, cells := 0, slots := 0, locals := 89 }
def wp_Md_value (z1 : MmdT) (x1 : Int32) (x2 : Int32) (post : Int32 → MmdT → Prop) : Prop := (wp_Md_node x1 (fun (r1 : Int32) => ((r1 = (0 : Int32) → (post (0 : Int32) z1)) ∧ (¬ r1 = (0 : Int32) → ((x2 < (0 : Int32) → (post (0 : Int32) z1)) ∧ (¬ x2 < (0 : Int32) → ((x2 ≤ (3 : Int32) → (wp_Md_replayOf z1 x1 (fun (u6 : MmdT) => (vp_in x2 4 ∧ (post ((mmd_values u6) (x2).toNatClampNeg) u6))))) ∧ (¬ x2 ≤ (3 : Int32) → (post (0 : Int32) z1)))))))))
abbrev rm_Md_value : Room := { frames := 3, cells := 0, slots := 0, locals := 68 }
def wp_Md_promised (z1 : MmdT) (x1 : Int32) (x2 : Int32) (x3 : Int32) (post : Int32 → MmdT → Prop) : Prop := (wp_Md_cell x1 x2 x3 (fun (r1 : Int32) => ((r1 = (0 : Int32) → (post (-1 : Int32) z1)) ∧ (¬ r1 = (0 : Int32) → (vp_in ((((45 : Int32) * x1) + ((9 : Int32) * x2)) + x3) 270 ∧ (post ((mmd_promised z1) (((((45 : Int32) * x1) + ((9 : Int32) * x2)) + x3)).toNatClampNeg) z1))))))
abbrev rm_Md_promised : Room := { frames := 2, cells := 0, slots := 0, locals := 42 }
def wp_Md_vote (z1 : MmdT) (x1 : Int32) (x2 : Int32) (x3 : Int32) (post : Int32 → MmdT → Prop) : Prop := (wp_Md_cell x1 x2 x3 (fun (r1 : Int32) => ((r1 = (0 : Int32) → (post (-1 : Int32) z1)) ∧ (¬ r1 = (0 : Int32) → (∀ v3 : Int32, v3 = ((((45 : Int32) * x1) + ((9 : Int32) * x2)) + x3) → (vp_in v3 270 ∧ ((((mmd_voteBallot z1) (v3).toNatClampNeg) ≤ (0 : Int32) → (post (0 : Int32) z1)) ∧ (¬ ((mmd_voteBallot z1) (v3).toNatClampNeg) ≤ (0 : Int32) → (vp_in v3 270 ∧ (vp_in v3 270 ∧ (post (((64 : Int32) * ((mmd_voteBallot z1) (v3).toNatClampNeg)) + ((mmd_voteCommand z1) (v3).toNatClampNeg)) z1)))))))))))
abbrev rm_Md_vote : Room := { frames := 2, cells := 0, slots := 0, locals := 42 }
def wp_Md_known (z1 : MmdT) (x1 : Int32) (x2 : Int32) (post : Int32 → MmdT → Prop) : Prop := (wp_Md_cell x1 (0 : Int32) x2 (fun (r1 : Int32) => ((r1 = (0 : Int32) → (post (-1 : Int32) z1)) ∧ (¬ r1 = (0 : Int32) → (wp_Md_knows z1 x1 x2 (fun (r3 : Int32) (u4 : MmdT) => ((r3 = (0 : Int32) → (post (-1 : Int32) u4)) ∧ (¬ r3 = (0 : Int32) → (vp_in x1 6 ∧ (vp_in (((9 : Int32) * ((mmd_configuration u4) (x1).toNatClampNeg)) + x2) 45 ∧ (post ((mmd_decided u4) ((((9 : Int32) * ((mmd_configuration u4) (x1).toNatClampNeg)) + x2)).toNatClampNeg) u4)))))))))))
abbrev rm_Md_known : Room := { frames := 2, cells := 0, slots := 0, locals := 42 }
def wp_Md_reply (z1 : MmdT) (x1 : Int32) (post : Int32 → MmdT → Prop) : Prop := ((x1 < (1 : Int32) → (post (0 : Int32) z1)) ∧ (¬ x1 < (1 : Int32) → ((x1 ≤ (mmd_requests z1) → (vp_in x1 31 ∧ (post ((mmd_replyOf z1) (x1).toNatClampNeg) z1))) ∧ (¬ x1 ≤ (mmd_requests z1) → (post (0 : Int32) z1)))))
abbrev rm_Md_reply : Room := { frames := 0, cells := 0, slots := 0, locals := 0 }
def wp_Md_heard (z1 : MmdT) (x1 : Int32) (post : Int32 → MmdT → Prop) : Prop := ((x1 < (1 : Int32) → (post (0 : Int32) z1)) ∧ (¬ x1 < (1 : Int32) → ((x1 ≤ (mmd_requests z1) → (vp_in x1 31 ∧ (post ((mmd_heardOf z1) (x1).toNatClampNeg) z1))) ∧ (¬ x1 ≤ (mmd_requests z1) → (post (0 : Int32) z1)))))
abbrev rm_Md_heard : Room := { frames := 0, cells := 0, slots := 0, locals := 0 }
set_option maxHeartbeats 4000000 in
set_option maxRecDepth 100000 in
theorem c_Md_crash (l : Launch) (D : va_G) (cI cN cZ : ClassId) (a1 : Nat → Nat) (z1 : MmdT) (x1 : Int32) (post : Int32 → MmdT → Prop) (hw : wp_Md_crash z1 x1 post) : km_I l y_Md_crash (.code y_Md_crash b_Md_crash 2 (some .boolean) :: kmW) rm_Md_crash D kmC (kmT cI cN cZ) kmF kmM [.ref (a1 0), .int x1] (mmdW cI cN cZ a1 z1) (fun (r : Int32) (u : MmdT) => post r u) (fun (u : MmdT) => (mmdW cI cN cZ a1 u)) 0 0 := by
  refine km_startI (cc := b_Md_crash) (maxL := 2) (ret := (some .boolean)) (by decide) rfl (Nat.le_of_ble_eq_true rfl) ?_
  intro p e s m below meth c A ls hE hA hK hP hD hS hl
  obtain ⟨hx, hb, hr, hml, hown, hts0, hlk, hnm⟩ := id hE
  have hts : ∀ w ∈ kmW, w.before ([.ref (a1 0), .int x1] : List Value).toArray s = true := fun w h => hts0 w (List.mem_cons_of_mem _ h)
  have hP : va_P D kmC (mmdW cI cN cZ a1 z1) s.heap := hP
  have hl : lv_has ls 2 [(0, .ref (a1 0)), (1, .int x1)] := hl
  unfold wp_Md_crash at hw
  refine lv_aload_n hx hb d_Md_crash_0 rfl (lv_at hl 0 rfl) ?_
  refine lv_iload_n hx hb d_Md_crash_1 rfl (lv_at hl 1 rfl) ?_
  refine km_ci (wr := []) (km_rV (n := 1) hE kmG (c_Md_isUp l D cI cN cZ a1 z1 x1 _ hw) mw_539 mw_536 mw_538 mp_29 mw_8 (by decide) ⟨rfl, rfl, ⟨by decide, by decide⟩, by decide, by decide⟩ hK (km_cut hP [0, 1, 2, 3, 4, 5, 6, 7, 8, 9, 10, 11, 12, 13, 14, 15, 16, 17, 18, 19, 20, 21, 22, 23, 24, 25] rfl) (hD.sub [0, 1, 2, 3, 4, 5, 6, 7, 8, 9, 10, 11, 12, 13, 14, 15, 16, 17, 18, 19, 20, 21, 22, 23, 24, 25] (by decide) rfl) (ci := 6) rfl hP (q0 := 0) rfl rfl hl.1 rfl (Nat.le_of_ble_eq_true rfl) d_Md_crash_2) hP hD hS hA [0, 1, 2, 3, 4, 5, 6, 7, 8, 9, 10, 11, 12, 13, 14, 15, 16, 17, 18, 19, 20, 21, 22, 23, 24, 25] [] rfl rfl (by decide) (by decide) (fun r1 u2 H locs hw hP hD hS => ?_)
  have hP : va_P D kmC (mmdW cI cN cZ a1 u2) H := hP
  have hD : va_D A (mmdW cI cN cZ a1 u2) := hD
  refine lv_if_ne (tgt := 10) hx hb d_Md_crash_5 (by first | rfl | decide) (fun h3 => ?_) (fun h3 => ?_)
  · have hw := hw.2 h3
    refine lv_aload_n hx hb d_Md_crash_10 rfl (lv_at hl 0 rfl) ?_
    refine lv_dup hx hb d_Md_crash_11 rfl ?_
    refine va_get (D := D) (ci := 6) (v := .int (mmd_up u2)) (C := R_Md) (T := F_Md) (N := 31) hx hb hts iw_Md hown hK.1 hP 0 rfl rfl 8 (by decide) (hts _ mw_435) (fun _ h => h) rfl d_Md_crash_12 ?_
    refine lv_iconst (v := (1 : Int32)) hx hb d_Md_crash_15 (by decide) ?_
    refine lv_iload_n hx hb d_Md_crash_16 rfl (lv_at hl 1 rfl) ?_
    refine lv_ishl hx hb d_Md_crash_17 ?_
    refine lv_iconst (v := (-1 : Int32)) hx hb d_Md_crash_18 (by decide) ?_
    refine lv_ixor hx hb d_Md_crash_19 ?_
    refine lv_iand hx hb d_Md_crash_20 ?_
    refine va_put (D := D) (ci := 6) (v := .int ((mmd_up u2) &&& (((1 : Int32) <<< (x1 &&& 31)) ^^^ (-1 : Int32)))) (ty := .int) (C := R_Md) (T := F_Md) (N := 31) hx hb hts iw_Md t_Md t_Md_ok n_Md hown hK.1 hP hD hS 0 rfl rfl 8 (by decide) (hts _ mw_435) (fun _ h => h) rfl (t_Md_ok 8 (by decide)) rfl rfl (Nat.le_of_ble_eq_true rfl) d_Md_crash_21 (fun H locs hP hD hS => ?_)
    have hP := (congrArg (fun w => va_P D kmC w H) (sw_mmd_s_up cI cN cZ a1 u2 ((mmd_up u2) &&& (((1 : Int32) <<< (x1 &&& 31)) ^^^ (-1 : Int32))))).mp hP
    have hD := (congrArg (va_D A) (sw_mmd_s_up cI cN cZ a1 u2 ((mmd_up u2) &&& (((1 : Int32) <<< (x1 &&& 31)) ^^^ (-1 : Int32))))).mp hD
    obtain ⟨w4, ew4⟩ : ∃ z : MmdT, z = mmd_s_up u2 ((mmd_up u2) &&& (((1 : Int32) <<< (x1 &&& 31)) ^^^ (-1 : Int32))) := ⟨_, rfl⟩
    rw [← ew4] at hP hD
    have hw := hw w4 ew4
    refine lv_aload_n hx hb d_Md_crash_24 rfl (lv_at hl 0 rfl) ?_
    refine va_get (D := D) (ci := 6) (v := .ref (a1 9)) (C := R_Md) (T := F_Md) (N := 31) hx hb hts iw_Md hown hK.1 hP 0 rfl rfl 11 (by decide) (hts _ mw_438) (fun _ h => h) rfl d_Md_crash_25 ?_
    refine lv_iload_n hx hb d_Md_crash_28 rfl (lv_at hl 1 rfl) ?_
    refine lv_iconst (v := (0 : Int32)) hx hb d_Md_crash_29 (by decide) ?_
    obtain ⟨hin, hw⟩ := hw
    refine va_iast (f := (mmd_known w4)) hx hb hK.1 hP hD hS 9 0 rfl rfl hin d_Md_crash_30 (fun H locs hP hD hS => ?_)
    have hP := (congrArg (fun w => va_P D kmC w H) (sw_mmd_s_known cI cN cZ a1 w4 (upd (mmd_known w4) (x1).toNatClampNeg (0 : Int32)))).mp hP
    have hD := (congrArg (va_D A) (sw_mmd_s_known cI cN cZ a1 w4 (upd (mmd_known w4) (x1).toNatClampNeg (0 : Int32)))).mp hD
    obtain ⟨w5, ew5⟩ : ∃ z : MmdT, z = mmd_s_known w4 (upd (mmd_known w4) (x1).toNatClampNeg (0 : Int32)) := ⟨_, rfl⟩
    rw [← ew5] at hP hD
    have hw := hw w5 ew5
    refine lv_aload_n hx hb d_Md_crash_31 rfl (lv_at hl 0 rfl) ?_
    refine va_get (D := D) (ci := 6) (v := .ref (a1 12)) (C := R_Md) (T := F_Md) (N := 31) hx hb hts iw_Md hown hK.1 hP 0 rfl rfl 14 (by decide) (hts _ mw_441) (fun _ h => h) rfl d_Md_crash_32 ?_
    refine lv_iload_n hx hb d_Md_crash_35 rfl (lv_at hl 1 rfl) ?_
    refine lv_iconst (v := (0 : Int32)) hx hb d_Md_crash_36 (by decide) ?_
    obtain ⟨hin, hw⟩ := hw
    refine va_iast (f := (mmd_pending w5)) hx hb hK.1 hP hD hS 12 0 rfl rfl hin d_Md_crash_37 (fun H locs hP hD hS => ?_)
    have hP := (congrArg (fun w => va_P D kmC w H) (sw_mmd_s_pending cI cN cZ a1 w5 (upd (mmd_pending w5) (x1).toNatClampNeg (0 : Int32)))).mp hP
    have hD := (congrArg (va_D A) (sw_mmd_s_pending cI cN cZ a1 w5 (upd (mmd_pending w5) (x1).toNatClampNeg (0 : Int32)))).mp hD
    obtain ⟨w6, ew6⟩ : ∃ z : MmdT, z = mmd_s_pending w5 (upd (mmd_pending w5) (x1).toNatClampNeg (0 : Int32)) := ⟨_, rfl⟩
    rw [← ew6] at hP hD
    have hw := hw w6 ew6
    refine lv_aload_n hx hb d_Md_crash_38 rfl (lv_at hl 0 rfl) ?_
    refine va_get (D := D) (ci := 6) (v := .ref (a1 16)) (C := R_Md) (T := F_Md) (N := 31) hx hb hts iw_Md hown hK.1 hP 0 rfl rfl 18 (by decide) (hts _ mw_445) (fun _ h => h) rfl d_Md_crash_39 ?_
    refine lv_iload_n hx hb d_Md_crash_42 rfl (lv_at hl 1 rfl) ?_
    refine lv_iconst (v := (0 : Int32)) hx hb d_Md_crash_43 (by decide) ?_
    obtain ⟨hin, hw⟩ := hw
    refine va_iast (f := (mmd_slot w6)) hx hb hK.1 hP hD hS 16 0 rfl rfl hin d_Md_crash_44 (fun H locs hP hD hS => ?_)
    have hP := (congrArg (fun w => va_P D kmC w H) (sw_mmd_s_slot cI cN cZ a1 w6 (upd (mmd_slot w6) (x1).toNatClampNeg (0 : Int32)))).mp hP
    have hD := (congrArg (va_D A) (sw_mmd_s_slot cI cN cZ a1 w6 (upd (mmd_slot w6) (x1).toNatClampNeg (0 : Int32)))).mp hD
    obtain ⟨w7, ew7⟩ : ∃ z : MmdT, z = mmd_s_slot w6 (upd (mmd_slot w6) (x1).toNatClampNeg (0 : Int32)) := ⟨_, rfl⟩
    rw [← ew7] at hP hD
    have hw := hw w7 ew7
    refine lv_iconst (v := (1 : Int32)) hx hb d_Md_crash_45 (by decide) ?_
    exact W.zret (ty := .boolean) (v := (1 : Int32)) hx hb hr (by decide) (fun t ht hW => ⟨⟨(1 : Int32), w7, rfl, hw, by rw [ht]; exact hP, hD⟩, hS.F ht⟩) hS.2.2 d_Md_crash_46
  · have hw := hw.1 h3
    refine lv_iconst (v := (0 : Int32)) hx hb d_Md_crash_8 (by decide) ?_
    exact W.zret (ty := .boolean) (v := (0 : Int32)) hx hb hr (by decide) (fun t ht hW => ⟨⟨(0 : Int32), u2, rfl, hw, by rw [ht]; exact hP, hD⟩, hS.F ht⟩) hS.2.2 d_Md_crash_9
set_option maxHeartbeats 4000000 in
set_option maxRecDepth 100000 in
theorem c_Md_restart (l : Launch) (D : va_G) (cI cN cZ : ClassId) (a1 : Nat → Nat) (z1 : MmdT) (x1 : Int32) (post : Int32 → MmdT → Prop) (hw : wp_Md_restart z1 x1 post) : km_I l y_Md_restart (.code y_Md_restart b_Md_restart 2 (some .boolean) :: kmW) rm_Md_restart D kmC (kmT cI cN cZ) kmF kmM [.ref (a1 0), .int x1] (mmdW cI cN cZ a1 z1) (fun (r : Int32) (u : MmdT) => post r u) (fun (u : MmdT) => (mmdW cI cN cZ a1 u)) 0 0 := by
  refine km_startI (cc := b_Md_restart) (maxL := 2) (ret := (some .boolean)) (by decide) rfl (Nat.le_of_ble_eq_true rfl) ?_
  intro p e s m below meth c A ls hE hA hK hP hD hS hl
  obtain ⟨hx, hb, hr, hml, hown, hts0, hlk, hnm⟩ := id hE
  have hts : ∀ w ∈ kmW, w.before ([.ref (a1 0), .int x1] : List Value).toArray s = true := fun w h => hts0 w (List.mem_cons_of_mem _ h)
  have hP : va_P D kmC (mmdW cI cN cZ a1 z1) s.heap := hP
  have hl : lv_has ls 2 [(0, .ref (a1 0)), (1, .int x1)] := hl
  unfold wp_Md_restart at hw
  refine lv_iload_n hx hb d_Md_restart_0 rfl (lv_at hl 1 rfl) ?_
  refine km_ci (wr := [(a1 0, .inr (6, [.int (mmd_requests z1), .ref (a1 1), .ref (a1 2), .ref (a1 3), .ref (a1 4), .ref (a1 5), .int (mmd_router z1), .ref (a1 6), .int (mmd_up z1), .ref (a1 7), .ref (a1 8), .ref (a1 9), .ref (a1 10), .ref (a1 11), .ref (a1 12), .ref (a1 13), .ref (a1 14), .ref (a1 15), .ref (a1 16), .ref (a1 17), .ref (a1 18), .ref (a1 19), .ref (a1 20), .ref (a1 21), .ref (a1 22), .ref (a1 23), .ref (a1 24), .ref (a1 25), .int (mmd_members z1), .int (mmd_atC z1), .int (mmd_atE z1)])), (a1 1, .inl (cI, 31, .inl (mmd_kindOf z1))), (a1 2, .inl (cI, 31, .inl (mmd_keyOf z1))), (a1 3, .inl (cI, 31, .inl (mmd_numberOf z1))), (a1 4, .inl (cI, 31, .inl (mmd_heardOf z1))), (a1 5, .inl (cI, 31, .inl (mmd_replyOf z1))), (a1 6, .inl (cI, 45, .inl (mmd_decided z1))), (a1 7, .inl (cI, 6, .inl (mmd_configuration z1))), (a1 8, .inl (cI, 6, .inl (mmd_executed z1))), (a1 9, .inl (cI, 6, .inl (mmd_known z1))), (a1 10, .inl (cI, 6, .inl (mmd_last z1))), (a1 11, .inl (cI, 6, .inl (mmd_retired z1))), (a1 12, .inl (cI, 6, .inl (mmd_pending z1))), (a1 13, .inl (cI, 270, .inl (mmd_promised z1))), (a1 14, .inl (cI, 270, .inl (mmd_voteBallot z1))), (a1 15, .inl (cI, 270, .inl (mmd_voteCommand z1))), (a1 16, .inl (cI, 6, .inl (mmd_slot z1))), (a1 17, .inl (cI, 6, .inl (mmd_ballot z1))), (a1 18, .inl (cI, 6, .inl (mmd_promisers z1))), (a1 19, .inl (cI, 6, .inl (mmd_voters z1))), (a1 20, .inl (cI, 6, .inl (mmd_bestBallot z1))), (a1 21, .inl (cI, 6, .inl (mmd_bestCommand z1))), (a1 22, .inl (cI, 6, .inl (mmd_command z1))), (a1 23, .inl (cI, 4, .inl (mmd_values z1))), (a1 24, .inl (cZ, 31, .inl (mmd_done z1))), (a1 25, .inl (cI, 31, .inl (mmd_answers z1)))]) (km_rS (n := 1) hE kmG (c_Md_node l D cI cN cZ x1 _ hw) mw_535 mw_533 mw_534 mw_8 (by decide) ⟨rfl, rfl, ⟨by decide, by decide⟩, by decide, by decide⟩ hK (km_cut hP [] rfl) (hD.sub [] (by decide) rfl) rfl hl.1 rfl (Nat.le_of_ble_eq_true rfl) d_Md_restart_1) hP hD hS hA [] [0, 1, 2, 3, 4, 5, 6, 7, 8, 9, 10, 11, 12, 13, 14, 15, 16, 17, 18, 19, 20, 21, 22, 23, 24, 25] rfl rfl (by decide) (by decide) (fun r1 _ H locs hw hP hD hS => ?_)
  have hP := hP.sub (ws' := (mmdW cI cN cZ a1 z1)) [0, 1, 2, 3, 4, 5, 6, 7, 8, 9, 10, 11, 12, 13, 14, 15, 16, 17, 18, 19, 20, 21, 22, 23, 24, 25] rfl
  have hD := hD.sub (ws' := (mmdW cI cN cZ a1 z1)) [0, 1, 2, 3, 4, 5, 6, 7, 8, 9, 10, 11, 12, 13, 14, 15, 16, 17, 18, 19, 20, 21, 22, 23, 24, 25] (by decide) rfl
  refine lv_if_eq (tgt := 15) hx hb d_Md_restart_4 (by first | rfl | decide) (fun h2 => ?_) (fun h2 => ?_)
  · have hw := hw.1 h2
    refine lv_iconst (v := (0 : Int32)) hx hb d_Md_restart_15 (by decide) ?_
    exact W.zret (ty := .boolean) (v := (0 : Int32)) hx hb hr (by decide) (fun t ht hW => ⟨⟨(0 : Int32), z1, rfl, hw, by rw [ht]; exact hP, hD⟩, hS.F ht⟩) hS.2.2 d_Md_restart_16
  · have hw := hw.2 h2
    refine lv_aload_n hx hb d_Md_restart_7 rfl (lv_at hl 0 rfl) ?_
    refine lv_iload_n hx hb d_Md_restart_8 rfl (lv_at hl 1 rfl) ?_
    refine km_ci (wr := []) (km_rV (n := 1) hE kmG (c_Md_isUp l D cI cN cZ a1 z1 x1 _ hw) mw_539 mw_536 mw_538 mp_29 mw_8 (by decide) ⟨rfl, rfl, ⟨by decide, by decide⟩, by decide, by decide⟩ hK (km_cut hP [0, 1, 2, 3, 4, 5, 6, 7, 8, 9, 10, 11, 12, 13, 14, 15, 16, 17, 18, 19, 20, 21, 22, 23, 24, 25] rfl) (hD.sub [0, 1, 2, 3, 4, 5, 6, 7, 8, 9, 10, 11, 12, 13, 14, 15, 16, 17, 18, 19, 20, 21, 22, 23, 24, 25] (by decide) rfl) (ci := 6) rfl hP (q0 := 0) rfl rfl hl.1 rfl (Nat.le_of_ble_eq_true rfl) d_Md_restart_9) hP hD hS hA [0, 1, 2, 3, 4, 5, 6, 7, 8, 9, 10, 11, 12, 13, 14, 15, 16, 17, 18, 19, 20, 21, 22, 23, 24, 25] [] rfl rfl (by decide) (by decide) (fun r3 u4 H locs hw hP hD hS => ?_)
    have hP : va_P D kmC (mmdW cI cN cZ a1 u4) H := hP
    have hD : va_D A (mmdW cI cN cZ a1 u4) := hD
    refine lv_if_eq (tgt := 17) hx hb d_Md_restart_12 (by first | rfl | decide) (fun h5 => ?_) (fun h5 => ?_)
    · have hw := hw.1 h5
      refine lv_aload_n hx hb d_Md_restart_17 rfl (lv_at hl 0 rfl) ?_
      refine lv_dup hx hb d_Md_restart_18 rfl ?_
      refine va_get (D := D) (ci := 6) (v := .int (mmd_up u4)) (C := R_Md) (T := F_Md) (N := 31) hx hb hts iw_Md hown hK.1 hP 0 rfl rfl 8 (by decide) (hts _ mw_435) (fun _ h => h) rfl d_Md_restart_19 ?_
      refine lv_iconst (v := (1 : Int32)) hx hb d_Md_restart_22 (by decide) ?_
      refine lv_iload_n hx hb d_Md_restart_23 rfl (lv_at hl 1 rfl) ?_
      refine lv_ishl hx hb d_Md_restart_24 ?_
      refine lv_ior hx hb d_Md_restart_25 ?_
      refine va_put (D := D) (ci := 6) (v := .int ((mmd_up u4) ||| ((1 : Int32) <<< (x1 &&& 31)))) (ty := .int) (C := R_Md) (T := F_Md) (N := 31) hx hb hts iw_Md t_Md t_Md_ok n_Md hown hK.1 hP hD hS 0 rfl rfl 8 (by decide) (hts _ mw_435) (fun _ h => h) rfl (t_Md_ok 8 (by decide)) rfl rfl (Nat.le_of_ble_eq_true rfl) d_Md_restart_26 (fun H locs hP hD hS => ?_)
      have hP := (congrArg (fun w => va_P D kmC w H) (sw_mmd_s_up cI cN cZ a1 u4 ((mmd_up u4) ||| ((1 : Int32) <<< (x1 &&& 31))))).mp hP
      have hD := (congrArg (va_D A) (sw_mmd_s_up cI cN cZ a1 u4 ((mmd_up u4) ||| ((1 : Int32) <<< (x1 &&& 31))))).mp hD
      obtain ⟨w6, ew6⟩ : ∃ z : MmdT, z = mmd_s_up u4 ((mmd_up u4) ||| ((1 : Int32) <<< (x1 &&& 31))) := ⟨_, rfl⟩
      rw [← ew6] at hP hD
      have hw := hw w6 ew6
      refine lv_iconst (v := (1 : Int32)) hx hb d_Md_restart_29 (by decide) ?_
      exact W.zret (ty := .boolean) (v := (1 : Int32)) hx hb hr (by decide) (fun t ht hW => ⟨⟨(1 : Int32), w6, rfl, hw, by rw [ht]; exact hP, hD⟩, hS.F ht⟩) hS.2.2 d_Md_restart_30
    · have hw := hw.2 h5
      refine lv_iconst (v := (0 : Int32)) hx hb d_Md_restart_15 (by decide) ?_
      exact W.zret (ty := .boolean) (v := (0 : Int32)) hx hb hr (by decide) (fun t ht hW => ⟨⟨(0 : Int32), u4, rfl, hw, by rw [ht]; exact hP, hD⟩, hS.F ht⟩) hS.2.2 d_Md_restart_16
set_option maxHeartbeats 4000000 in
set_option maxRecDepth 100000 in
theorem c_Md_retire (l : Launch) (D : va_G) (cI cN cZ : ClassId) (a1 : Nat → Nat) (z1 : MmdT) (x1 : Int32) (post : Int32 → MmdT → Prop) (hw : wp_Md_retire z1 x1 post) : km_I l y_Md_retire (.code y_Md_retire b_Md_retire 4 (some .int) :: kmW) rm_Md_retire D kmC (kmT cI cN cZ) kmF kmM [.ref (a1 0), .int x1] (mmdW cI cN cZ a1 z1) (fun (r : Int32) (u : MmdT) => post r u) (fun (u : MmdT) => (mmdW cI cN cZ a1 u)) 0 0 := by
  refine km_startI (cc := b_Md_retire) (maxL := 4) (ret := (some .int)) (by decide) rfl (Nat.le_of_ble_eq_true rfl) ?_
  intro p e s m below meth c A ls hE hA hK hP hD hS hl
  obtain ⟨hx, hb, hr, hml, hown, hts0, hlk, hnm⟩ := id hE
  have hts : ∀ w ∈ kmW, w.before ([.ref (a1 0), .int x1] : List Value).toArray s = true := fun w h => hts0 w (List.mem_cons_of_mem _ h)
  have hP : va_P D kmC (mmdW cI cN cZ a1 z1) s.heap := hP
  have hl : lv_has ls 4 [(0, .ref (a1 0)), (1, .int x1)] := hl
  unfold wp_Md_retire at hw
  refine lv_iload_n hx hb d_Md_retire_0 rfl (lv_at hl 1 rfl) ?_
  refine km_ci (wr := [(a1 0, .inr (6, [.int (mmd_requests z1), .ref (a1 1), .ref (a1 2), .ref (a1 3), .ref (a1 4), .ref (a1 5), .int (mmd_router z1), .ref (a1 6), .int (mmd_up z1), .ref (a1 7), .ref (a1 8), .ref (a1 9), .ref (a1 10), .ref (a1 11), .ref (a1 12), .ref (a1 13), .ref (a1 14), .ref (a1 15), .ref (a1 16), .ref (a1 17), .ref (a1 18), .ref (a1 19), .ref (a1 20), .ref (a1 21), .ref (a1 22), .ref (a1 23), .ref (a1 24), .ref (a1 25), .int (mmd_members z1), .int (mmd_atC z1), .int (mmd_atE z1)])), (a1 1, .inl (cI, 31, .inl (mmd_kindOf z1))), (a1 2, .inl (cI, 31, .inl (mmd_keyOf z1))), (a1 3, .inl (cI, 31, .inl (mmd_numberOf z1))), (a1 4, .inl (cI, 31, .inl (mmd_heardOf z1))), (a1 5, .inl (cI, 31, .inl (mmd_replyOf z1))), (a1 6, .inl (cI, 45, .inl (mmd_decided z1))), (a1 7, .inl (cI, 6, .inl (mmd_configuration z1))), (a1 8, .inl (cI, 6, .inl (mmd_executed z1))), (a1 9, .inl (cI, 6, .inl (mmd_known z1))), (a1 10, .inl (cI, 6, .inl (mmd_last z1))), (a1 11, .inl (cI, 6, .inl (mmd_retired z1))), (a1 12, .inl (cI, 6, .inl (mmd_pending z1))), (a1 13, .inl (cI, 270, .inl (mmd_promised z1))), (a1 14, .inl (cI, 270, .inl (mmd_voteBallot z1))), (a1 15, .inl (cI, 270, .inl (mmd_voteCommand z1))), (a1 16, .inl (cI, 6, .inl (mmd_slot z1))), (a1 17, .inl (cI, 6, .inl (mmd_ballot z1))), (a1 18, .inl (cI, 6, .inl (mmd_promisers z1))), (a1 19, .inl (cI, 6, .inl (mmd_voters z1))), (a1 20, .inl (cI, 6, .inl (mmd_bestBallot z1))), (a1 21, .inl (cI, 6, .inl (mmd_bestCommand z1))), (a1 22, .inl (cI, 6, .inl (mmd_command z1))), (a1 23, .inl (cI, 4, .inl (mmd_values z1))), (a1 24, .inl (cZ, 31, .inl (mmd_done z1))), (a1 25, .inl (cI, 31, .inl (mmd_answers z1)))]) (km_rS (n := 1) hE kmG (c_Md_node l D cI cN cZ x1 _ hw) mw_535 mw_533 mw_534 mw_8 (by decide) ⟨rfl, rfl, ⟨by decide, by decide⟩, by decide, by decide⟩ hK (km_cut hP [] rfl) (hD.sub [] (by decide) rfl) rfl hl.1 rfl (Nat.le_of_ble_eq_true rfl) d_Md_retire_1) hP hD hS hA [] [0, 1, 2, 3, 4, 5, 6, 7, 8, 9, 10, 11, 12, 13, 14, 15, 16, 17, 18, 19, 20, 21, 22, 23, 24, 25] rfl rfl (by decide) (by decide) (fun r1 _ H locs hw hP hD hS => ?_)
  have hP := hP.sub (ws' := (mmdW cI cN cZ a1 z1)) [0, 1, 2, 3, 4, 5, 6, 7, 8, 9, 10, 11, 12, 13, 14, 15, 16, 17, 18, 19, 20, 21, 22, 23, 24, 25] rfl
  have hD := hD.sub (ws' := (mmdW cI cN cZ a1 z1)) [0, 1, 2, 3, 4, 5, 6, 7, 8, 9, 10, 11, 12, 13, 14, 15, 16, 17, 18, 19, 20, 21, 22, 23, 24, 25] (by decide) rfl
  refine lv_if_ne (tgt := 9) hx hb d_Md_retire_4 (by first | rfl | decide) (fun h2 => ?_) (fun h2 => ?_)
  · have hw := hw.2 h2
    refine lv_aload_n hx hb d_Md_retire_9 rfl (lv_at hl 0 rfl) ?_
    refine lv_iload_n hx hb d_Md_retire_10 rfl (lv_at hl 1 rfl) ?_
    refine km_ci (wr := []) (km_rV (n := 1) hE kmG (c_Md_isUp l D cI cN cZ a1 z1 x1 _ hw) mw_539 mw_536 mw_538 mp_29 mw_8 (by decide) ⟨rfl, rfl, ⟨by decide, by decide⟩, by decide, by decide⟩ hK (km_cut hP [0, 1, 2, 3, 4, 5, 6, 7, 8, 9, 10, 11, 12, 13, 14, 15, 16, 17, 18, 19, 20, 21, 22, 23, 24, 25] rfl) (hD.sub [0, 1, 2, 3, 4, 5, 6, 7, 8, 9, 10, 11, 12, 13, 14, 15, 16, 17, 18, 19, 20, 21, 22, 23, 24, 25] (by decide) rfl) (ci := 6) rfl hP (q0 := 0) rfl rfl hl.1 rfl (Nat.le_of_ble_eq_true rfl) d_Md_retire_11) hP hD hS hA [0, 1, 2, 3, 4, 5, 6, 7, 8, 9, 10, 11, 12, 13, 14, 15, 16, 17, 18, 19, 20, 21, 22, 23, 24, 25] [] rfl rfl (by decide) (by decide) (fun r3 u4 H locs hw hP hD hS => ?_)
    have hP : va_P D kmC (mmdW cI cN cZ a1 u4) H := hP
    have hD : va_D A (mmdW cI cN cZ a1 u4) := hD
    refine lv_if_eq (tgt := 32) hx hb d_Md_retire_14 (by first | rfl | decide) (fun h5 => ?_) (fun h5 => ?_)
    · have hw := hw.1 h5
      refine lv_iconst (v := (0 : Int32)) hx hb d_Md_retire_32 (by decide) ?_
      exact W.iret (v := (0 : Int32)) hx hb hr (fun t ht hW => ⟨⟨(0 : Int32), u4, rfl, hw, by rw [ht]; exact hP, hD⟩, hS.F ht⟩) hS.2.2 d_Md_retire_33
    · have hw := hw.2 h5
      refine lv_aload_n hx hb d_Md_retire_17 rfl (lv_at hl 0 rfl) ?_
      refine va_get (D := D) (ci := 6) (v := .ref (a1 11)) (C := R_Md) (T := F_Md) (N := 31) hx hb hts iw_Md hown hK.1 hP 0 rfl rfl 13 (by decide) (hts _ mw_440) (fun _ h => h) rfl d_Md_retire_18 ?_
      refine lv_iload_n hx hb d_Md_retire_21 rfl (lv_at hl 1 rfl) ?_
      obtain ⟨hin, hw⟩ := hw
      refine va_iald (f := (mmd_retired u4)) hx hb hK.1 hP 11 0 rfl rfl hin d_Md_retire_22 ?_
      refine lv_aload_n hx hb d_Md_retire_23 rfl (lv_at hl 0 rfl) ?_
      refine va_get (D := D) (ci := 6) (v := .ref (a1 7)) (C := R_Md) (T := F_Md) (N := 31) hx hb hts iw_Md hown hK.1 hP 0 rfl rfl 9 (by decide) (hts _ mw_436) (fun _ h => h) rfl d_Md_retire_24 ?_
      refine lv_iload_n hx hb d_Md_retire_27 rfl (lv_at hl 1 rfl) ?_
      obtain ⟨hin, hw⟩ := hw
      refine va_iald (f := (mmd_configuration u4)) hx hb hK.1 hP 7 0 rfl rfl hin d_Md_retire_28 ?_
      refine lv_icmp_ne (tgt := 34) hx hb d_Md_retire_29 (by first | rfl | decide) (fun h6 => ?_) (fun h6 => ?_)
      · have hw := hw.2 h6
        refine lv_iconst (v := (0 : Int32)) hx hb d_Md_retire_34 (by decide) ?_
        refine lv_istore_n (lv' := [(2, .int (0 : Int32)), (0, .ref (a1 0)), (1, .int x1)]) hx hb d_Md_retire_35 rfl hl (by decide) rfl (fun ls hl => ?_)
        refine lv_bipush (v := (45 : Int32)) hx hb d_Md_retire_36 (by decide) ?_
        refine lv_iload_n hx hb d_Md_retire_38 rfl (lv_at hl 2 rfl) ?_
        refine lv_imul hx hb d_Md_retire_39 ?_
        refine lv_topi (fun v7 ev7 => ?_)
        have hw := hw v7 ev7
        refine lv_istore_n (lv' := [(3, .int v7), (2, .int (0 : Int32)), (0, .ref (a1 0)), (1, .int x1)]) hx hb d_Md_retire_40 rfl hl (by decide) rfl (fun ls hl => ?_)
        have key41 : ∀ (K41 : Int32 → Int32 → Int32 → MmdT → Prop) (hk41 : ∀ (y1 : Int32) (y2 : Int32) (y3 : Int32) (z1 : MmdT) (ls : Array Slot) (H : Heap) (locs : List Loc), K41 y1 y2 y3 z1 → lv_has ls 4 [(1, .int y1), (2, .int y2), (3, .int y3), (0, .ref (a1 0))] → va_P D kmC (mmdW cI cN cZ a1 z1) H → va_D A (mmdW cI cN cZ a1 z1) → va_S A s.heap H locs → W p l e rm_Md_retire s m ([.ref (a1 0), .int x1] : List Value).toArray below meth c H locs 0 0 (MQ below (va_Qi (fun (r : Int32) (u : MmdT) => post r u) (km_B D kmC A (fun (u : MmdT) => (mmdW cI cN cZ a1 u))) A) ([.ref (a1 0), .int x1] : List Value).toArray s 0 0 A) (F0 m 103 ls [])) (n41 : Nat), ∀ (y1 : Int32) (y2 : Int32) (y3 : Int32) (z1 : MmdT) (ls : Array Slot) (H : Heap) (locs : List Loc), wp_Md_retire_L41 K41 n41 y1 y2 y3 z1 → lv_has ls 4 [(1, .int y1), (2, .int y2), (3, .int y3), (0, .ref (a1 0))] → va_P D kmC (mmdW cI cN cZ a1 z1) H → va_D A (mmdW cI cN cZ a1 z1) → va_S A s.heap H locs → W p l e rm_Md_retire s m ([.ref (a1 0), .int x1] : List Value).toArray below meth c H locs 0 0 (MQ below (va_Qi (fun (r : Int32) (u : MmdT) => post r u) (km_B D kmC A (fun (u : MmdT) => (mmdW cI cN cZ a1 u))) A) ([.ref (a1 0), .int x1] : List Value).toArray s 0 0 A) (F0 m 41 ls []) := by
          intro K41 hk41 n41
          induction n41 with
          | zero => intro y1 y2 y3 z1 ls H locs hw; exact hw.elim
          | succ n41 ih41 =>
            intro y1 y2 y3 z1 ls H locs hw hl hP hD hS
            refine lv_iload_n hx hb d_Md_retire_41 rfl (lv_at hl 2 rfl) ?_
            refine lv_bipush (v := (45 : Int32)) hx hb d_Md_retire_42 (by decide) ?_
            refine lv_iload_n hx hb d_Md_retire_44 rfl (lv_at hl 0 rfl) ?_
            refine lv_imul hx hb d_Md_retire_45 ?_
            refine lv_bipush (v := (9 : Int32)) hx hb d_Md_retire_46 (by decide) ?_
            refine lv_aload_n hx hb d_Md_retire_48 rfl (lv_at hl 3 rfl) ?_
            refine va_get (D := D) (ci := 6) (v := .ref (a1 7)) (C := R_Md) (T := F_Md) (N := 31) hx hb hts iw_Md hown hK.1 hP 0 rfl rfl 9 (by decide) (hts _ mw_436) (fun _ h => h) rfl d_Md_retire_49 ?_
            refine lv_iload_n hx hb d_Md_retire_52 rfl (lv_at hl 0 rfl) ?_
            obtain ⟨hin, hw⟩ := hw
            refine va_iald (f := (mmd_configuration z1)) hx hb hK.1 hP 7 0 rfl rfl hin d_Md_retire_53 ?_
            refine lv_imul hx hb d_Md_retire_54 ?_
            refine lv_iadd hx hb d_Md_retire_55 ?_
            refine lv_icmp_ge (tgt := 103) hx hb d_Md_retire_56 (by first | rfl | decide) (fun h8 => ?_) (fun h8 => ?_)
            · have hw := hw.1 h8
              exact hk41 y1 y2 y3 z1 ls H locs hw (lv_sub hl [0, 1, 2, 3] rfl) hP hD hS
            · have hw := hw.2 h8
              refine lv_iload_n hx hb d_Md_retire_59 rfl (lv_at hl 1 rfl) ?_
              refine lv_aload_n hx hb d_Md_retire_60 rfl (lv_at hl 3 rfl) ?_
              refine va_get (D := D) (ci := 6) (v := .ref (a1 14)) (C := R_Md) (T := F_Md) (N := 31) hx hb hts iw_Md hown hK.1 hP 0 rfl rfl 16 (by decide) (hts _ mw_443) (fun _ h => h) rfl d_Md_retire_61 ?_
              refine lv_iload_n hx hb d_Md_retire_64 rfl (lv_at hl 2 rfl) ?_
              obtain ⟨hin, hw⟩ := hw
              refine va_iald (f := (mmd_voteBallot z1)) hx hb hK.1 hP 14 0 rfl rfl hin d_Md_retire_65 ?_
              refine lv_if_le (tgt := 73) hx hb d_Md_retire_66 (by first | rfl | decide) (fun h9 => ?_) (fun h9 => ?_)
              · have hw := hw.1 h9
                refine lv_iconst (v := (0 : Int32)) hx hb d_Md_retire_73 (by decide) ?_
                refine lv_iadd hx hb d_Md_retire_74 ?_
                refine lv_topi (fun v10 ev10 => ?_)
                have hw := hw v10 ev10
                refine lv_istore_n (lv' := [(2, .int v10), (1, .int y1), (3, .int y3), (0, .ref (a1 0))]) hx hb d_Md_retire_75 rfl hl (by decide) rfl (fun ls hl => ?_)
                refine lv_aload_n hx hb d_Md_retire_76 rfl (lv_at hl 3 rfl) ?_
                refine va_get (D := D) (ci := 6) (v := .ref (a1 14)) (C := R_Md) (T := F_Md) (N := 31) hx hb hts iw_Md hown hK.1 hP 0 rfl rfl 16 (by decide) (hts _ mw_443) (fun _ h => h) rfl d_Md_retire_77 ?_
                refine lv_iload_n hx hb d_Md_retire_80 rfl (lv_at hl 2 rfl) ?_
                refine lv_iconst (v := (0 : Int32)) hx hb d_Md_retire_81 (by decide) ?_
                obtain ⟨hin, hw⟩ := hw
                refine va_iast (f := (mmd_voteBallot z1)) hx hb hK.1 hP hD hS 14 0 rfl rfl hin d_Md_retire_82 (fun H locs hP hD hS => ?_)
                have hP := (congrArg (fun w => va_P D kmC w H) (sw_mmd_s_voteBallot cI cN cZ a1 z1 (upd (mmd_voteBallot z1) (y3).toNatClampNeg (0 : Int32)))).mp hP
                have hD := (congrArg (va_D A) (sw_mmd_s_voteBallot cI cN cZ a1 z1 (upd (mmd_voteBallot z1) (y3).toNatClampNeg (0 : Int32)))).mp hD
                obtain ⟨w11, ew11⟩ : ∃ z : MmdT, z = mmd_s_voteBallot z1 (upd (mmd_voteBallot z1) (y3).toNatClampNeg (0 : Int32)) := ⟨_, rfl⟩
                rw [← ew11] at hP hD
                have hw := hw w11 ew11
                refine lv_aload_n hx hb d_Md_retire_83 rfl (lv_at hl 3 rfl) ?_
                refine va_get (D := D) (ci := 6) (v := .ref (a1 15)) (C := R_Md) (T := F_Md) (N := 31) hx hb hts iw_Md hown hK.1 hP 0 rfl rfl 17 (by decide) (hts _ mw_444) (fun _ h => h) rfl d_Md_retire_84 ?_
                refine lv_iload_n hx hb d_Md_retire_87 rfl (lv_at hl 2 rfl) ?_
                refine lv_iconst (v := (0 : Int32)) hx hb d_Md_retire_88 (by decide) ?_
                obtain ⟨hin, hw⟩ := hw
                refine va_iast (f := (mmd_voteCommand w11)) hx hb hK.1 hP hD hS 15 0 rfl rfl hin d_Md_retire_89 (fun H locs hP hD hS => ?_)
                have hP := (congrArg (fun w => va_P D kmC w H) (sw_mmd_s_voteCommand cI cN cZ a1 w11 (upd (mmd_voteCommand w11) (y3).toNatClampNeg (0 : Int32)))).mp hP
                have hD := (congrArg (va_D A) (sw_mmd_s_voteCommand cI cN cZ a1 w11 (upd (mmd_voteCommand w11) (y3).toNatClampNeg (0 : Int32)))).mp hD
                obtain ⟨w12, ew12⟩ : ∃ z : MmdT, z = mmd_s_voteCommand w11 (upd (mmd_voteCommand w11) (y3).toNatClampNeg (0 : Int32)) := ⟨_, rfl⟩
                rw [← ew12] at hP hD
                have hw := hw w12 ew12
                refine lv_aload_n hx hb d_Md_retire_90 rfl (lv_at hl 3 rfl) ?_
                refine va_get (D := D) (ci := 6) (v := .ref (a1 13)) (C := R_Md) (T := F_Md) (N := 31) hx hb hts iw_Md hown hK.1 hP 0 rfl rfl 15 (by decide) (hts _ mw_442) (fun _ h => h) rfl d_Md_retire_91 ?_
                refine lv_iload_n hx hb d_Md_retire_94 rfl (lv_at hl 2 rfl) ?_
                refine lv_iconst (v := (0 : Int32)) hx hb d_Md_retire_95 (by decide) ?_
                obtain ⟨hin, hw⟩ := hw
                refine va_iast (f := (mmd_promised w12)) hx hb hK.1 hP hD hS 13 0 rfl rfl hin d_Md_retire_96 (fun H locs hP hD hS => ?_)
                have hP := (congrArg (fun w => va_P D kmC w H) (sw_mmd_s_promised cI cN cZ a1 w12 (upd (mmd_promised w12) (y3).toNatClampNeg (0 : Int32)))).mp hP
                have hD := (congrArg (va_D A) (sw_mmd_s_promised cI cN cZ a1 w12 (upd (mmd_promised w12) (y3).toNatClampNeg (0 : Int32)))).mp hD
                obtain ⟨w13, ew13⟩ : ∃ z : MmdT, z = mmd_s_promised w12 (upd (mmd_promised w12) (y3).toNatClampNeg (0 : Int32)) := ⟨_, rfl⟩
                rw [← ew13] at hP hD
                have hw := hw w13 ew13
                obtain ⟨v14, ev14⟩ : ∃ z : Int32, z = (y3 + (1 : Int32)) := ⟨_, rfl⟩
                have hw := hw v14 ev14
                refine lv_iinc (v := v14) (lv' := [(3, .int v14), (2, .int v10), (1, .int y1), (0, .ref (a1 0))]) hx hb d_Md_retire_97 hl (k := 2) rfl ev14.symm (by decide) rfl (fun ls hl => ?_)
                refine lv_goto (tgt := 41) hx hb d_Md_retire_100 (by first | rfl | decide) ?_
                exact ih41 y1 v10 v14 w13 ls H locs hw (lv_sub hl [2, 1, 0, 3] rfl) hP hD hS
              · have hw := hw.2 h9
                refine lv_iconst (v := (1 : Int32)) hx hb d_Md_retire_69 (by decide) ?_
                refine lv_goto (tgt := 74) hx hb d_Md_retire_70 (by first | rfl | decide) ?_
                refine lv_iadd hx hb d_Md_retire_74 ?_
                refine lv_topi (fun v15 ev15 => ?_)
                have hw := hw v15 ev15
                refine lv_istore_n (lv' := [(2, .int v15), (1, .int y1), (3, .int y3), (0, .ref (a1 0))]) hx hb d_Md_retire_75 rfl hl (by decide) rfl (fun ls hl => ?_)
                refine lv_aload_n hx hb d_Md_retire_76 rfl (lv_at hl 3 rfl) ?_
                refine va_get (D := D) (ci := 6) (v := .ref (a1 14)) (C := R_Md) (T := F_Md) (N := 31) hx hb hts iw_Md hown hK.1 hP 0 rfl rfl 16 (by decide) (hts _ mw_443) (fun _ h => h) rfl d_Md_retire_77 ?_
                refine lv_iload_n hx hb d_Md_retire_80 rfl (lv_at hl 2 rfl) ?_
                refine lv_iconst (v := (0 : Int32)) hx hb d_Md_retire_81 (by decide) ?_
                obtain ⟨hin, hw⟩ := hw
                refine va_iast (f := (mmd_voteBallot z1)) hx hb hK.1 hP hD hS 14 0 rfl rfl hin d_Md_retire_82 (fun H locs hP hD hS => ?_)
                have hP := (congrArg (fun w => va_P D kmC w H) (sw_mmd_s_voteBallot cI cN cZ a1 z1 (upd (mmd_voteBallot z1) (y3).toNatClampNeg (0 : Int32)))).mp hP
                have hD := (congrArg (va_D A) (sw_mmd_s_voteBallot cI cN cZ a1 z1 (upd (mmd_voteBallot z1) (y3).toNatClampNeg (0 : Int32)))).mp hD
                obtain ⟨w16, ew16⟩ : ∃ z : MmdT, z = mmd_s_voteBallot z1 (upd (mmd_voteBallot z1) (y3).toNatClampNeg (0 : Int32)) := ⟨_, rfl⟩
                rw [← ew16] at hP hD
                have hw := hw w16 ew16
                refine lv_aload_n hx hb d_Md_retire_83 rfl (lv_at hl 3 rfl) ?_
                refine va_get (D := D) (ci := 6) (v := .ref (a1 15)) (C := R_Md) (T := F_Md) (N := 31) hx hb hts iw_Md hown hK.1 hP 0 rfl rfl 17 (by decide) (hts _ mw_444) (fun _ h => h) rfl d_Md_retire_84 ?_
                refine lv_iload_n hx hb d_Md_retire_87 rfl (lv_at hl 2 rfl) ?_
                refine lv_iconst (v := (0 : Int32)) hx hb d_Md_retire_88 (by decide) ?_
                obtain ⟨hin, hw⟩ := hw
                refine va_iast (f := (mmd_voteCommand w16)) hx hb hK.1 hP hD hS 15 0 rfl rfl hin d_Md_retire_89 (fun H locs hP hD hS => ?_)
                have hP := (congrArg (fun w => va_P D kmC w H) (sw_mmd_s_voteCommand cI cN cZ a1 w16 (upd (mmd_voteCommand w16) (y3).toNatClampNeg (0 : Int32)))).mp hP
                have hD := (congrArg (va_D A) (sw_mmd_s_voteCommand cI cN cZ a1 w16 (upd (mmd_voteCommand w16) (y3).toNatClampNeg (0 : Int32)))).mp hD
                obtain ⟨w17, ew17⟩ : ∃ z : MmdT, z = mmd_s_voteCommand w16 (upd (mmd_voteCommand w16) (y3).toNatClampNeg (0 : Int32)) := ⟨_, rfl⟩
                rw [← ew17] at hP hD
                have hw := hw w17 ew17
                refine lv_aload_n hx hb d_Md_retire_90 rfl (lv_at hl 3 rfl) ?_
                refine va_get (D := D) (ci := 6) (v := .ref (a1 13)) (C := R_Md) (T := F_Md) (N := 31) hx hb hts iw_Md hown hK.1 hP 0 rfl rfl 15 (by decide) (hts _ mw_442) (fun _ h => h) rfl d_Md_retire_91 ?_
                refine lv_iload_n hx hb d_Md_retire_94 rfl (lv_at hl 2 rfl) ?_
                refine lv_iconst (v := (0 : Int32)) hx hb d_Md_retire_95 (by decide) ?_
                obtain ⟨hin, hw⟩ := hw
                refine va_iast (f := (mmd_promised w17)) hx hb hK.1 hP hD hS 13 0 rfl rfl hin d_Md_retire_96 (fun H locs hP hD hS => ?_)
                have hP := (congrArg (fun w => va_P D kmC w H) (sw_mmd_s_promised cI cN cZ a1 w17 (upd (mmd_promised w17) (y3).toNatClampNeg (0 : Int32)))).mp hP
                have hD := (congrArg (va_D A) (sw_mmd_s_promised cI cN cZ a1 w17 (upd (mmd_promised w17) (y3).toNatClampNeg (0 : Int32)))).mp hD
                obtain ⟨w18, ew18⟩ : ∃ z : MmdT, z = mmd_s_promised w17 (upd (mmd_promised w17) (y3).toNatClampNeg (0 : Int32)) := ⟨_, rfl⟩
                rw [← ew18] at hP hD
                have hw := hw w18 ew18
                obtain ⟨v19, ev19⟩ : ∃ z : Int32, z = (y3 + (1 : Int32)) := ⟨_, rfl⟩
                have hw := hw v19 ev19
                refine lv_iinc (v := v19) (lv' := [(3, .int v19), (2, .int v15), (1, .int y1), (0, .ref (a1 0))]) hx hb d_Md_retire_97 hl (k := 2) rfl ev19.symm (by decide) rfl (fun ls hl => ?_)
                refine lv_goto (tgt := 41) hx hb d_Md_retire_100 (by first | rfl | decide) ?_
                exact ih41 y1 v15 v19 w18 ls H locs hw (lv_sub hl [2, 1, 0, 3] rfl) hP hD hS
        obtain ⟨n41, hw⟩ := hw
        refine key41 _ (fun y1 y2 y3 z1 ls H locs hw hl hP hD hS => ?_) n41 x1 (0 : Int32) v7 u4 ls H locs hw (lv_sub hl [3, 1, 0, 2] rfl) hP hD hS
        refine lv_aload_n hx hb d_Md_retire_103 rfl (lv_at hl 3 rfl) ?_
        refine va_get (D := D) (ci := 6) (v := .ref (a1 11)) (C := R_Md) (T := F_Md) (N := 31) hx hb hts iw_Md hown hK.1 hP 0 rfl rfl 13 (by decide) (hts _ mw_440) (fun _ h => h) rfl d_Md_retire_104 ?_
        refine lv_iload_n hx hb d_Md_retire_107 rfl (lv_at hl 0 rfl) ?_
        refine lv_aload_n hx hb d_Md_retire_108 rfl (lv_at hl 3 rfl) ?_
        refine va_get (D := D) (ci := 6) (v := .ref (a1 7)) (C := R_Md) (T := F_Md) (N := 31) hx hb hts iw_Md hown hK.1 hP 0 rfl rfl 9 (by decide) (hts _ mw_436) (fun _ h => h) rfl d_Md_retire_109 ?_
        refine lv_iload_n hx hb d_Md_retire_112 rfl (lv_at hl 0 rfl) ?_
        obtain ⟨hin, hw⟩ := hw
        refine va_iald (f := (mmd_configuration z1)) hx hb hK.1 hP 7 0 rfl rfl hin d_Md_retire_113 ?_
        obtain ⟨hin, hw⟩ := hw
        refine va_iast (f := (mmd_retired z1)) hx hb hK.1 hP hD hS 11 0 rfl rfl hin d_Md_retire_114 (fun H locs hP hD hS => ?_)
        have hP := (congrArg (fun w => va_P D kmC w H) (sw_mmd_s_retired cI cN cZ a1 z1 (upd (mmd_retired z1) (y1).toNatClampNeg ((mmd_configuration z1) (y1).toNatClampNeg)))).mp hP
        have hD := (congrArg (va_D A) (sw_mmd_s_retired cI cN cZ a1 z1 (upd (mmd_retired z1) (y1).toNatClampNeg ((mmd_configuration z1) (y1).toNatClampNeg)))).mp hD
        obtain ⟨w20, ew20⟩ : ∃ z : MmdT, z = mmd_s_retired z1 (upd (mmd_retired z1) (y1).toNatClampNeg ((mmd_configuration z1) (y1).toNatClampNeg)) := ⟨_, rfl⟩
        rw [← ew20] at hP hD
        have hw := hw w20 ew20
        refine lv_iload_n hx hb d_Md_retire_115 rfl (lv_at hl 1 rfl) ?_
        refine lv_iconst (v := (1 : Int32)) hx hb d_Md_retire_116 (by decide) ?_
        refine lv_iadd hx hb d_Md_retire_117 ?_
        exact W.iret (v := (y2 + (1 : Int32))) hx hb hr (fun t ht hW => ⟨⟨(y2 + (1 : Int32)), w20, rfl, hw, by rw [ht]; exact hP, hD⟩, hS.F ht⟩) hS.2.2 d_Md_retire_118
      · have hw := hw.1 h6
        refine lv_iconst (v := (0 : Int32)) hx hb d_Md_retire_32 (by decide) ?_
        exact W.iret (v := (0 : Int32)) hx hb hr (fun t ht hW => ⟨⟨(0 : Int32), u4, rfl, hw, by rw [ht]; exact hP, hD⟩, hS.F ht⟩) hS.2.2 d_Md_retire_33
  · have hw := hw.1 h2
    refine lv_iconst (v := (-1 : Int32)) hx hb d_Md_retire_7 (by decide) ?_
    exact W.iret (v := (-1 : Int32)) hx hb hr (fun t ht hW => ⟨⟨(-1 : Int32), z1, rfl, hw, by rw [ht]; exact hP, hD⟩, hS.F ht⟩) hS.2.2 d_Md_retire_8
set_option maxHeartbeats 4000000 in
set_option maxRecDepth 100000 in
theorem c_Md_look (l : Launch) (D : va_G) (cI cN cZ : ClassId) (a1 : Nat → Nat) (z1 : MmdT) (x1 : Int32) (x2 : Int32) (post : Int32 → MmdT → Prop) (hw : wp_Md_look z1 x1 x2 post) : km_I l y_Md_look (.code y_Md_look b_Md_look 4 (some .int) :: kmW) rm_Md_look D kmC (kmT cI cN cZ) kmF kmM [.ref (a1 0), .int x1, .int x2] (mmdW cI cN cZ a1 z1) (fun (r : Int32) (u : MmdT) => post r u) (fun (u : MmdT) => (mmdW cI cN cZ a1 u)) 0 0 := by
  refine km_startI (cc := b_Md_look) (maxL := 4) (ret := (some .int)) (by decide) rfl (Nat.le_of_ble_eq_true rfl) ?_
  intro p e s m below meth c A ls hE hA hK hP hD hS hl
  obtain ⟨hx, hb, hr, hml, hown, hts0, hlk, hnm⟩ := id hE
  have hts : ∀ w ∈ kmW, w.before ([.ref (a1 0), .int x1, .int x2] : List Value).toArray s = true := fun w h => hts0 w (List.mem_cons_of_mem _ h)
  have hP : va_P D kmC (mmdW cI cN cZ a1 z1) s.heap := hP
  have hl : lv_has ls 4 [(0, .ref (a1 0)), (1, .int x1), (2, .int x2)] := hl
  unfold wp_Md_look at hw
  refine lv_iload_n hx hb d_Md_look_0 rfl (lv_at hl 1 rfl) ?_
  refine km_ci (wr := [(a1 0, .inr (6, [.int (mmd_requests z1), .ref (a1 1), .ref (a1 2), .ref (a1 3), .ref (a1 4), .ref (a1 5), .int (mmd_router z1), .ref (a1 6), .int (mmd_up z1), .ref (a1 7), .ref (a1 8), .ref (a1 9), .ref (a1 10), .ref (a1 11), .ref (a1 12), .ref (a1 13), .ref (a1 14), .ref (a1 15), .ref (a1 16), .ref (a1 17), .ref (a1 18), .ref (a1 19), .ref (a1 20), .ref (a1 21), .ref (a1 22), .ref (a1 23), .ref (a1 24), .ref (a1 25), .int (mmd_members z1), .int (mmd_atC z1), .int (mmd_atE z1)])), (a1 1, .inl (cI, 31, .inl (mmd_kindOf z1))), (a1 2, .inl (cI, 31, .inl (mmd_keyOf z1))), (a1 3, .inl (cI, 31, .inl (mmd_numberOf z1))), (a1 4, .inl (cI, 31, .inl (mmd_heardOf z1))), (a1 5, .inl (cI, 31, .inl (mmd_replyOf z1))), (a1 6, .inl (cI, 45, .inl (mmd_decided z1))), (a1 7, .inl (cI, 6, .inl (mmd_configuration z1))), (a1 8, .inl (cI, 6, .inl (mmd_executed z1))), (a1 9, .inl (cI, 6, .inl (mmd_known z1))), (a1 10, .inl (cI, 6, .inl (mmd_last z1))), (a1 11, .inl (cI, 6, .inl (mmd_retired z1))), (a1 12, .inl (cI, 6, .inl (mmd_pending z1))), (a1 13, .inl (cI, 270, .inl (mmd_promised z1))), (a1 14, .inl (cI, 270, .inl (mmd_voteBallot z1))), (a1 15, .inl (cI, 270, .inl (mmd_voteCommand z1))), (a1 16, .inl (cI, 6, .inl (mmd_slot z1))), (a1 17, .inl (cI, 6, .inl (mmd_ballot z1))), (a1 18, .inl (cI, 6, .inl (mmd_promisers z1))), (a1 19, .inl (cI, 6, .inl (mmd_voters z1))), (a1 20, .inl (cI, 6, .inl (mmd_bestBallot z1))), (a1 21, .inl (cI, 6, .inl (mmd_bestCommand z1))), (a1 22, .inl (cI, 6, .inl (mmd_command z1))), (a1 23, .inl (cI, 4, .inl (mmd_values z1))), (a1 24, .inl (cZ, 31, .inl (mmd_done z1))), (a1 25, .inl (cI, 31, .inl (mmd_answers z1)))]) (km_rS (n := 1) hE kmG (c_Md_node l D cI cN cZ x1 _ hw) mw_535 mw_533 mw_534 mw_8 (by decide) ⟨rfl, rfl, ⟨by decide, by decide⟩, by decide, by decide⟩ hK (km_cut hP [] rfl) (hD.sub [] (by decide) rfl) rfl hl.1 rfl (Nat.le_of_ble_eq_true rfl) d_Md_look_1) hP hD hS hA [] [0, 1, 2, 3, 4, 5, 6, 7, 8, 9, 10, 11, 12, 13, 14, 15, 16, 17, 18, 19, 20, 21, 22, 23, 24, 25] rfl rfl (by decide) (by decide) (fun r1 _ H locs hw hP hD hS => ?_)
  have hP := hP.sub (ws' := (mmdW cI cN cZ a1 z1)) [0, 1, 2, 3, 4, 5, 6, 7, 8, 9, 10, 11, 12, 13, 14, 15, 16, 17, 18, 19, 20, 21, 22, 23, 24, 25] rfl
  have hD := hD.sub (ws' := (mmdW cI cN cZ a1 z1)) [0, 1, 2, 3, 4, 5, 6, 7, 8, 9, 10, 11, 12, 13, 14, 15, 16, 17, 18, 19, 20, 21, 22, 23, 24, 25] (by decide) rfl
  refine lv_if_ne (tgt := 9) hx hb d_Md_look_4 (by first | rfl | decide) (fun h2 => ?_) (fun h2 => ?_)
  · have hw := hw.2 h2
    refine lv_aload_n hx hb d_Md_look_9 rfl (lv_at hl 0 rfl) ?_
    refine va_get (D := D) (ci := 6) (v := .ref (a1 16)) (C := R_Md) (T := F_Md) (N := 31) hx hb hts iw_Md hown hK.1 hP 0 rfl rfl 18 (by decide) (hts _ mw_445) (fun _ h => h) rfl d_Md_look_10 ?_
    refine lv_iload_n hx hb d_Md_look_13 rfl (lv_at hl 1 rfl) ?_
    obtain ⟨hin, hw⟩ := hw
    refine va_iald (f := (mmd_slot z1)) hx hb hK.1 hP 16 0 rfl rfl hin d_Md_look_14 ?_
    refine lv_if_le (tgt := 22) hx hb d_Md_look_15 (by first | rfl | decide) (fun h3 => ?_) (fun h3 => ?_)
    · have hw := hw.1 h3
      refine lv_iconst (v := (0 : Int32)) hx hb d_Md_look_22 (by decide) ?_
      refine lv_istore_n (lv' := [(3, .int (0 : Int32)), (0, .ref (a1 0)), (1, .int x1), (2, .int x2)]) hx hb d_Md_look_23 rfl hl (by decide) rfl (fun ls hl => ?_)
      refine lv_iload_n hx hb d_Md_look_24 rfl (lv_at hl 3 rfl) ?_
      by_cases h4 : x2 = (0 : Int32)
      · have hw := hw.1 h4
        refine lv_tableIn (tgt := 84) (off := 59) hx hb d_Md_look_25 (by rw [h4]; decide) (by rw [h4]; decide) (by rw [h4]; rfl) (by first | rfl | decide) ?_
        refine lv_aload_n hx hb d_Md_look_84 rfl (lv_at hl 1 rfl) ?_
        refine va_get (D := D) (ci := 6) (v := .int (mmd_up z1)) (C := R_Md) (T := F_Md) (N := 31) hx hb hts iw_Md hown hK.1 hP 0 rfl rfl 8 (by decide) (hts _ mw_435) (fun _ h => h) rfl d_Md_look_85 ?_
        refine lv_iload_n hx hb d_Md_look_88 rfl (lv_at hl 2 rfl) ?_
        refine lv_ishr hx hb d_Md_look_89 ?_
        refine lv_iconst (v := (1 : Int32)) hx hb d_Md_look_90 (by decide) ?_
        refine lv_iand hx hb d_Md_look_91 ?_
        exact W.iret (v := (((mmd_up z1) >>> (x1 &&& 31)) &&& (1 : Int32))) hx hb hr (fun t ht hW => ⟨⟨(((mmd_up z1) >>> (x1 &&& 31)) &&& (1 : Int32)), z1, rfl, hw, by rw [ht]; exact hP, hD⟩, hS.F ht⟩) hS.2.2 d_Md_look_92
      have hw := hw.2 h4
      by_cases h5 : x2 = (1 : Int32)
      · have hw := hw.1 h5
        refine lv_tableIn (tgt := 93) (off := 68) hx hb d_Md_look_25 (by rw [h5]; decide) (by rw [h5]; decide) (by rw [h5]; rfl) (by first | rfl | decide) ?_
        refine lv_aload_n hx hb d_Md_look_93 rfl (lv_at hl 1 rfl) ?_
        refine va_get (D := D) (ci := 6) (v := .ref (a1 7)) (C := R_Md) (T := F_Md) (N := 31) hx hb hts iw_Md hown hK.1 hP 0 rfl rfl 9 (by decide) (hts _ mw_436) (fun _ h => h) rfl d_Md_look_94 ?_
        refine lv_iload_n hx hb d_Md_look_97 rfl (lv_at hl 2 rfl) ?_
        obtain ⟨hin, hw⟩ := hw
        refine va_iald (f := (mmd_configuration z1)) hx hb hK.1 hP 7 0 rfl rfl hin d_Md_look_98 ?_
        exact W.iret (v := ((mmd_configuration z1) (x1).toNatClampNeg)) hx hb hr (fun t ht hW => ⟨⟨((mmd_configuration z1) (x1).toNatClampNeg), z1, rfl, hw, by rw [ht]; exact hP, hD⟩, hS.F ht⟩) hS.2.2 d_Md_look_99
      have hw := hw.2 h5
      by_cases h6 : x2 = (2 : Int32)
      · have hw := hw.1 h6
        refine lv_tableIn (tgt := 100) (off := 75) hx hb d_Md_look_25 (by rw [h6]; decide) (by rw [h6]; decide) (by rw [h6]; rfl) (by first | rfl | decide) ?_
        refine lv_aload_n hx hb d_Md_look_100 rfl (lv_at hl 1 rfl) ?_
        refine va_get (D := D) (ci := 6) (v := .ref (a1 8)) (C := R_Md) (T := F_Md) (N := 31) hx hb hts iw_Md hown hK.1 hP 0 rfl rfl 10 (by decide) (hts _ mw_437) (fun _ h => h) rfl d_Md_look_101 ?_
        refine lv_iload_n hx hb d_Md_look_104 rfl (lv_at hl 2 rfl) ?_
        obtain ⟨hin, hw⟩ := hw
        refine va_iald (f := (mmd_executed z1)) hx hb hK.1 hP 8 0 rfl rfl hin d_Md_look_105 ?_
        exact W.iret (v := ((mmd_executed z1) (x1).toNatClampNeg)) hx hb hr (fun t ht hW => ⟨⟨((mmd_executed z1) (x1).toNatClampNeg), z1, rfl, hw, by rw [ht]; exact hP, hD⟩, hS.F ht⟩) hS.2.2 d_Md_look_106
      have hw := hw.2 h6
      by_cases h7 : x2 = (3 : Int32)
      · have hw := hw.1 h7
        refine lv_tableIn (tgt := 107) (off := 82) hx hb d_Md_look_25 (by rw [h7]; decide) (by rw [h7]; decide) (by rw [h7]; rfl) (by first | rfl | decide) ?_
        refine lv_aload_n hx hb d_Md_look_107 rfl (lv_at hl 1 rfl) ?_
        refine lv_iload_n hx hb d_Md_look_108 rfl (lv_at hl 2 rfl) ?_
        refine km_ci (wr := []) (km_rV (n := 1) hE kmG (c_Md_membersOf l D cI cN cZ a1 z1 x1 _ hw) mw_580 mw_577 mw_579 mp_36 mw_8 (by decide) ⟨rfl, rfl, ⟨by decide, by decide⟩, by decide, by decide⟩ hK (km_cut hP [0, 1, 2, 3, 4, 5, 6, 7, 8, 9, 10, 11, 12, 13, 14, 15, 16, 17, 18, 19, 20, 21, 22, 23, 24, 25] rfl) (hD.sub [0, 1, 2, 3, 4, 5, 6, 7, 8, 9, 10, 11, 12, 13, 14, 15, 16, 17, 18, 19, 20, 21, 22, 23, 24, 25] (by decide) rfl) (ci := 6) rfl hP (q0 := 0) rfl rfl hl.1 rfl (Nat.le_of_ble_eq_true rfl) d_Md_look_109) hP hD hS hA [0, 1, 2, 3, 4, 5, 6, 7, 8, 9, 10, 11, 12, 13, 14, 15, 16, 17, 18, 19, 20, 21, 22, 23, 24, 25] [] rfl rfl (by decide) (by decide) (fun r8 u9 H locs hw hP hD hS => ?_)
        have hP : va_P D kmC (mmdW cI cN cZ a1 u9) H := hP
        have hD : va_D A (mmdW cI cN cZ a1 u9) := hD
        exact W.iret (v := r8) hx hb hr (fun t ht hW => ⟨⟨r8, u9, rfl, hw, by rw [ht]; exact hP, hD⟩, hS.F ht⟩) hS.2.2 d_Md_look_112
      have hw := hw.2 h7
      by_cases h10 : x2 = (4 : Int32)
      · have hw := hw.1 h10
        refine lv_tableIn (tgt := 113) (off := 88) hx hb d_Md_look_25 (by rw [h10]; decide) (by rw [h10]; decide) (by rw [h10]; rfl) (by first | rfl | decide) ?_
        refine lv_aload_n hx hb d_Md_look_113 rfl (lv_at hl 1 rfl) ?_
        refine va_get (D := D) (ci := 6) (v := .ref (a1 10)) (C := R_Md) (T := F_Md) (N := 31) hx hb hts iw_Md hown hK.1 hP 0 rfl rfl 12 (by decide) (hts _ mw_439) (fun _ h => h) rfl d_Md_look_114 ?_
        refine lv_iload_n hx hb d_Md_look_117 rfl (lv_at hl 2 rfl) ?_
        obtain ⟨hin, hw⟩ := hw
        refine va_iald (f := (mmd_last z1)) hx hb hK.1 hP 10 0 rfl rfl hin d_Md_look_118 ?_
        exact W.iret (v := ((mmd_last z1) (x1).toNatClampNeg)) hx hb hr (fun t ht hW => ⟨⟨((mmd_last z1) (x1).toNatClampNeg), z1, rfl, hw, by rw [ht]; exact hP, hD⟩, hS.F ht⟩) hS.2.2 d_Md_look_119
      have hw := hw.2 h10
      by_cases h11 : x2 = (5 : Int32)
      · have hw := hw.1 h11
        refine lv_tableIn (tgt := 120) (off := 95) hx hb d_Md_look_25 (by rw [h11]; decide) (by rw [h11]; decide) (by rw [h11]; rfl) (by first | rfl | decide) ?_
        refine lv_aload_n hx hb d_Md_look_120 rfl (lv_at hl 1 rfl) ?_
        refine va_get (D := D) (ci := 6) (v := .ref (a1 11)) (C := R_Md) (T := F_Md) (N := 31) hx hb hts iw_Md hown hK.1 hP 0 rfl rfl 13 (by decide) (hts _ mw_440) (fun _ h => h) rfl d_Md_look_121 ?_
        refine lv_iload_n hx hb d_Md_look_124 rfl (lv_at hl 2 rfl) ?_
        obtain ⟨hin, hw⟩ := hw
        refine va_iald (f := (mmd_retired z1)) hx hb hK.1 hP 11 0 rfl rfl hin d_Md_look_125 ?_
        exact W.iret (v := ((mmd_retired z1) (x1).toNatClampNeg)) hx hb hr (fun t ht hW => ⟨⟨((mmd_retired z1) (x1).toNatClampNeg), z1, rfl, hw, by rw [ht]; exact hP, hD⟩, hS.F ht⟩) hS.2.2 d_Md_look_126
      have hw := hw.2 h11
      by_cases h12 : x2 = (6 : Int32)
      · have hw := hw.1 h12
        refine lv_tableIn (tgt := 127) (off := 102) hx hb d_Md_look_25 (by rw [h12]; decide) (by rw [h12]; decide) (by rw [h12]; rfl) (by first | rfl | decide) ?_
        refine lv_aload_n hx hb d_Md_look_127 rfl (lv_at hl 1 rfl) ?_
        refine va_get (D := D) (ci := 6) (v := .ref (a1 12)) (C := R_Md) (T := F_Md) (N := 31) hx hb hts iw_Md hown hK.1 hP 0 rfl rfl 14 (by decide) (hts _ mw_441) (fun _ h => h) rfl d_Md_look_128 ?_
        refine lv_iload_n hx hb d_Md_look_131 rfl (lv_at hl 2 rfl) ?_
        obtain ⟨hin, hw⟩ := hw
        refine va_iald (f := (mmd_pending z1)) hx hb hK.1 hP 12 0 rfl rfl hin d_Md_look_132 ?_
        exact W.iret (v := ((mmd_pending z1) (x1).toNatClampNeg)) hx hb hr (fun t ht hW => ⟨⟨((mmd_pending z1) (x1).toNatClampNeg), z1, rfl, hw, by rw [ht]; exact hP, hD⟩, hS.F ht⟩) hS.2.2 d_Md_look_133
      have hw := hw.2 h12
      by_cases h13 : x2 = (7 : Int32)
      · have hw := hw.1 h13
        refine lv_tableIn (tgt := 134) (off := 109) hx hb d_Md_look_25 (by rw [h13]; decide) (by rw [h13]; decide) (by rw [h13]; rfl) (by first | rfl | decide) ?_
        refine lv_aload_n hx hb d_Md_look_134 rfl (lv_at hl 1 rfl) ?_
        refine va_get (D := D) (ci := 6) (v := .ref (a1 16)) (C := R_Md) (T := F_Md) (N := 31) hx hb hts iw_Md hown hK.1 hP 0 rfl rfl 18 (by decide) (hts _ mw_445) (fun _ h => h) rfl d_Md_look_135 ?_
        refine lv_iload_n hx hb d_Md_look_138 rfl (lv_at hl 2 rfl) ?_
        obtain ⟨hin, hw⟩ := hw
        refine va_iald (f := (mmd_slot z1)) hx hb hK.1 hP 16 0 rfl rfl hin d_Md_look_139 ?_
        exact W.iret (v := ((mmd_slot z1) (x1).toNatClampNeg)) hx hb hr (fun t ht hW => ⟨⟨((mmd_slot z1) (x1).toNatClampNeg), z1, rfl, hw, by rw [ht]; exact hP, hD⟩, hS.F ht⟩) hS.2.2 d_Md_look_140
      have hw := hw.2 h13
      by_cases h14 : x2 = (8 : Int32)
      · have hw := hw.1 h14
        refine lv_tableIn (tgt := 141) (off := 116) hx hb d_Md_look_25 (by rw [h14]; decide) (by rw [h14]; decide) (by rw [h14]; rfl) (by first | rfl | decide) ?_
        refine lv_iload_n hx hb d_Md_look_141 rfl (lv_at hl 0 rfl) ?_
        refine lv_if_eq (tgt := 154) hx hb d_Md_look_142 (by first | rfl | decide) (fun h15 => ?_) (fun h15 => ?_)
        · skip
          refine lv_iconst (v := (0 : Int32)) hx hb d_Md_look_154 (by decide) ?_
          exact W.iret (v := (0 : Int32)) hx hb hr (fun t ht hW => ⟨⟨(0 : Int32), z1, rfl, hw, by rw [ht]; exact hP, hD⟩, hS.F ht⟩) hS.2.2 d_Md_look_155
        · exact absurd h15 (by decide)
      have hw := hw.2 h14
      by_cases h16 : x2 = (9 : Int32)
      · have hw := hw.1 h16
        refine lv_tableIn (tgt := 156) (off := 131) hx hb d_Md_look_25 (by rw [h16]; decide) (by rw [h16]; decide) (by rw [h16]; rfl) (by first | rfl | decide) ?_
        refine lv_iload_n hx hb d_Md_look_156 rfl (lv_at hl 0 rfl) ?_
        refine lv_if_eq (tgt := 169) hx hb d_Md_look_157 (by first | rfl | decide) (fun h17 => ?_) (fun h17 => ?_)
        · skip
          refine lv_iconst (v := (0 : Int32)) hx hb d_Md_look_169 (by decide) ?_
          exact W.iret (v := (0 : Int32)) hx hb hr (fun t ht hW => ⟨⟨(0 : Int32), z1, rfl, hw, by rw [ht]; exact hP, hD⟩, hS.F ht⟩) hS.2.2 d_Md_look_170
        · exact absurd h17 (by decide)
      have hw := hw.2 h16
      by_cases h18 : x2 = (10 : Int32)
      · have hw := hw.1 h18
        refine lv_tableIn (tgt := 171) (off := 146) hx hb d_Md_look_25 (by rw [h18]; decide) (by rw [h18]; decide) (by rw [h18]; rfl) (by first | rfl | decide) ?_
        refine lv_iload_n hx hb d_Md_look_171 rfl (lv_at hl 0 rfl) ?_
        refine lv_if_eq (tgt := 184) hx hb d_Md_look_172 (by first | rfl | decide) (fun h19 => ?_) (fun h19 => ?_)
        · skip
          refine lv_iconst (v := (0 : Int32)) hx hb d_Md_look_184 (by decide) ?_
          exact W.iret (v := (0 : Int32)) hx hb hr (fun t ht hW => ⟨⟨(0 : Int32), z1, rfl, hw, by rw [ht]; exact hP, hD⟩, hS.F ht⟩) hS.2.2 d_Md_look_185
        · exact absurd h19 (by decide)
      have hw := hw.2 h18
      refine lv_tableOut (tgt := 186) hx hb d_Md_look_25 (by have h4T := lv_neT (a := 0) h4 (by decide); have h5T := lv_neT (a := 1) h5 (by decide); have h6T := lv_neT (a := 2) h6 (by decide); have h7T := lv_neT (a := 3) h7 (by decide); have h10T := lv_neT (a := 4) h10 (by decide); have h11T := lv_neT (a := 5) h11 (by decide); have h12T := lv_neT (a := 6) h12 (by decide); have h13T := lv_neT (a := 7) h13 (by decide); have h14T := lv_neT (a := 8) h14 (by decide); have h16T := lv_neT (a := 9) h16 (by decide); have h18T := lv_neT (a := 10) h18 (by decide); omega) (by first | rfl | decide) ?_
      refine lv_iconst (v := (-1 : Int32)) hx hb d_Md_look_186 (by decide) ?_
      exact W.iret (v := (-1 : Int32)) hx hb hr (fun t ht hW => ⟨⟨(-1 : Int32), z1, rfl, hw, by rw [ht]; exact hP, hD⟩, hS.F ht⟩) hS.2.2 d_Md_look_187
    · have hw := hw.2 h3
      refine lv_iconst (v := (1 : Int32)) hx hb d_Md_look_18 (by decide) ?_
      refine lv_goto (tgt := 23) hx hb d_Md_look_19 (by first | rfl | decide) ?_
      refine lv_istore_n (lv' := [(3, .int (1 : Int32)), (0, .ref (a1 0)), (1, .int x1), (2, .int x2)]) hx hb d_Md_look_23 rfl hl (by decide) rfl (fun ls hl => ?_)
      refine lv_iload_n hx hb d_Md_look_24 rfl (lv_at hl 3 rfl) ?_
      by_cases h20 : x2 = (0 : Int32)
      · have hw := hw.1 h20
        refine lv_tableIn (tgt := 84) (off := 59) hx hb d_Md_look_25 (by rw [h20]; decide) (by rw [h20]; decide) (by rw [h20]; rfl) (by first | rfl | decide) ?_
        refine lv_aload_n hx hb d_Md_look_84 rfl (lv_at hl 1 rfl) ?_
        refine va_get (D := D) (ci := 6) (v := .int (mmd_up z1)) (C := R_Md) (T := F_Md) (N := 31) hx hb hts iw_Md hown hK.1 hP 0 rfl rfl 8 (by decide) (hts _ mw_435) (fun _ h => h) rfl d_Md_look_85 ?_
        refine lv_iload_n hx hb d_Md_look_88 rfl (lv_at hl 2 rfl) ?_
        refine lv_ishr hx hb d_Md_look_89 ?_
        refine lv_iconst (v := (1 : Int32)) hx hb d_Md_look_90 (by decide) ?_
        refine lv_iand hx hb d_Md_look_91 ?_
        exact W.iret (v := (((mmd_up z1) >>> (x1 &&& 31)) &&& (1 : Int32))) hx hb hr (fun t ht hW => ⟨⟨(((mmd_up z1) >>> (x1 &&& 31)) &&& (1 : Int32)), z1, rfl, hw, by rw [ht]; exact hP, hD⟩, hS.F ht⟩) hS.2.2 d_Md_look_92
      have hw := hw.2 h20
      by_cases h21 : x2 = (1 : Int32)
      · have hw := hw.1 h21
        refine lv_tableIn (tgt := 93) (off := 68) hx hb d_Md_look_25 (by rw [h21]; decide) (by rw [h21]; decide) (by rw [h21]; rfl) (by first | rfl | decide) ?_
        refine lv_aload_n hx hb d_Md_look_93 rfl (lv_at hl 1 rfl) ?_
        refine va_get (D := D) (ci := 6) (v := .ref (a1 7)) (C := R_Md) (T := F_Md) (N := 31) hx hb hts iw_Md hown hK.1 hP 0 rfl rfl 9 (by decide) (hts _ mw_436) (fun _ h => h) rfl d_Md_look_94 ?_
        refine lv_iload_n hx hb d_Md_look_97 rfl (lv_at hl 2 rfl) ?_
        obtain ⟨hin, hw⟩ := hw
        refine va_iald (f := (mmd_configuration z1)) hx hb hK.1 hP 7 0 rfl rfl hin d_Md_look_98 ?_
        exact W.iret (v := ((mmd_configuration z1) (x1).toNatClampNeg)) hx hb hr (fun t ht hW => ⟨⟨((mmd_configuration z1) (x1).toNatClampNeg), z1, rfl, hw, by rw [ht]; exact hP, hD⟩, hS.F ht⟩) hS.2.2 d_Md_look_99
      have hw := hw.2 h21
      by_cases h22 : x2 = (2 : Int32)
      · have hw := hw.1 h22
        refine lv_tableIn (tgt := 100) (off := 75) hx hb d_Md_look_25 (by rw [h22]; decide) (by rw [h22]; decide) (by rw [h22]; rfl) (by first | rfl | decide) ?_
        refine lv_aload_n hx hb d_Md_look_100 rfl (lv_at hl 1 rfl) ?_
        refine va_get (D := D) (ci := 6) (v := .ref (a1 8)) (C := R_Md) (T := F_Md) (N := 31) hx hb hts iw_Md hown hK.1 hP 0 rfl rfl 10 (by decide) (hts _ mw_437) (fun _ h => h) rfl d_Md_look_101 ?_
        refine lv_iload_n hx hb d_Md_look_104 rfl (lv_at hl 2 rfl) ?_
        obtain ⟨hin, hw⟩ := hw
        refine va_iald (f := (mmd_executed z1)) hx hb hK.1 hP 8 0 rfl rfl hin d_Md_look_105 ?_
        exact W.iret (v := ((mmd_executed z1) (x1).toNatClampNeg)) hx hb hr (fun t ht hW => ⟨⟨((mmd_executed z1) (x1).toNatClampNeg), z1, rfl, hw, by rw [ht]; exact hP, hD⟩, hS.F ht⟩) hS.2.2 d_Md_look_106
      have hw := hw.2 h22
      by_cases h23 : x2 = (3 : Int32)
      · have hw := hw.1 h23
        refine lv_tableIn (tgt := 107) (off := 82) hx hb d_Md_look_25 (by rw [h23]; decide) (by rw [h23]; decide) (by rw [h23]; rfl) (by first | rfl | decide) ?_
        refine lv_aload_n hx hb d_Md_look_107 rfl (lv_at hl 1 rfl) ?_
        refine lv_iload_n hx hb d_Md_look_108 rfl (lv_at hl 2 rfl) ?_
        refine km_ci (wr := []) (km_rV (n := 1) hE kmG (c_Md_membersOf l D cI cN cZ a1 z1 x1 _ hw) mw_580 mw_577 mw_579 mp_36 mw_8 (by decide) ⟨rfl, rfl, ⟨by decide, by decide⟩, by decide, by decide⟩ hK (km_cut hP [0, 1, 2, 3, 4, 5, 6, 7, 8, 9, 10, 11, 12, 13, 14, 15, 16, 17, 18, 19, 20, 21, 22, 23, 24, 25] rfl) (hD.sub [0, 1, 2, 3, 4, 5, 6, 7, 8, 9, 10, 11, 12, 13, 14, 15, 16, 17, 18, 19, 20, 21, 22, 23, 24, 25] (by decide) rfl) (ci := 6) rfl hP (q0 := 0) rfl rfl hl.1 rfl (Nat.le_of_ble_eq_true rfl) d_Md_look_109) hP hD hS hA [0, 1, 2, 3, 4, 5, 6, 7, 8, 9, 10, 11, 12, 13, 14, 15, 16, 17, 18, 19, 20, 21, 22, 23, 24, 25] [] rfl rfl (by decide) (by decide) (fun r24 u25 H locs hw hP hD hS => ?_)
        have hP : va_P D kmC (mmdW cI cN cZ a1 u25) H := hP
        have hD : va_D A (mmdW cI cN cZ a1 u25) := hD
        exact W.iret (v := r24) hx hb hr (fun t ht hW => ⟨⟨r24, u25, rfl, hw, by rw [ht]; exact hP, hD⟩, hS.F ht⟩) hS.2.2 d_Md_look_112
      have hw := hw.2 h23
      by_cases h26 : x2 = (4 : Int32)
      · have hw := hw.1 h26
        refine lv_tableIn (tgt := 113) (off := 88) hx hb d_Md_look_25 (by rw [h26]; decide) (by rw [h26]; decide) (by rw [h26]; rfl) (by first | rfl | decide) ?_
        refine lv_aload_n hx hb d_Md_look_113 rfl (lv_at hl 1 rfl) ?_
        refine va_get (D := D) (ci := 6) (v := .ref (a1 10)) (C := R_Md) (T := F_Md) (N := 31) hx hb hts iw_Md hown hK.1 hP 0 rfl rfl 12 (by decide) (hts _ mw_439) (fun _ h => h) rfl d_Md_look_114 ?_
        refine lv_iload_n hx hb d_Md_look_117 rfl (lv_at hl 2 rfl) ?_
        obtain ⟨hin, hw⟩ := hw
        refine va_iald (f := (mmd_last z1)) hx hb hK.1 hP 10 0 rfl rfl hin d_Md_look_118 ?_
        exact W.iret (v := ((mmd_last z1) (x1).toNatClampNeg)) hx hb hr (fun t ht hW => ⟨⟨((mmd_last z1) (x1).toNatClampNeg), z1, rfl, hw, by rw [ht]; exact hP, hD⟩, hS.F ht⟩) hS.2.2 d_Md_look_119
      have hw := hw.2 h26
      by_cases h27 : x2 = (5 : Int32)
      · have hw := hw.1 h27
        refine lv_tableIn (tgt := 120) (off := 95) hx hb d_Md_look_25 (by rw [h27]; decide) (by rw [h27]; decide) (by rw [h27]; rfl) (by first | rfl | decide) ?_
        refine lv_aload_n hx hb d_Md_look_120 rfl (lv_at hl 1 rfl) ?_
        refine va_get (D := D) (ci := 6) (v := .ref (a1 11)) (C := R_Md) (T := F_Md) (N := 31) hx hb hts iw_Md hown hK.1 hP 0 rfl rfl 13 (by decide) (hts _ mw_440) (fun _ h => h) rfl d_Md_look_121 ?_
        refine lv_iload_n hx hb d_Md_look_124 rfl (lv_at hl 2 rfl) ?_
        obtain ⟨hin, hw⟩ := hw
        refine va_iald (f := (mmd_retired z1)) hx hb hK.1 hP 11 0 rfl rfl hin d_Md_look_125 ?_
        exact W.iret (v := ((mmd_retired z1) (x1).toNatClampNeg)) hx hb hr (fun t ht hW => ⟨⟨((mmd_retired z1) (x1).toNatClampNeg), z1, rfl, hw, by rw [ht]; exact hP, hD⟩, hS.F ht⟩) hS.2.2 d_Md_look_126
      have hw := hw.2 h27
      by_cases h28 : x2 = (6 : Int32)
      · have hw := hw.1 h28
        refine lv_tableIn (tgt := 127) (off := 102) hx hb d_Md_look_25 (by rw [h28]; decide) (by rw [h28]; decide) (by rw [h28]; rfl) (by first | rfl | decide) ?_
        refine lv_aload_n hx hb d_Md_look_127 rfl (lv_at hl 1 rfl) ?_
        refine va_get (D := D) (ci := 6) (v := .ref (a1 12)) (C := R_Md) (T := F_Md) (N := 31) hx hb hts iw_Md hown hK.1 hP 0 rfl rfl 14 (by decide) (hts _ mw_441) (fun _ h => h) rfl d_Md_look_128 ?_
        refine lv_iload_n hx hb d_Md_look_131 rfl (lv_at hl 2 rfl) ?_
        obtain ⟨hin, hw⟩ := hw
        refine va_iald (f := (mmd_pending z1)) hx hb hK.1 hP 12 0 rfl rfl hin d_Md_look_132 ?_
        exact W.iret (v := ((mmd_pending z1) (x1).toNatClampNeg)) hx hb hr (fun t ht hW => ⟨⟨((mmd_pending z1) (x1).toNatClampNeg), z1, rfl, hw, by rw [ht]; exact hP, hD⟩, hS.F ht⟩) hS.2.2 d_Md_look_133
      have hw := hw.2 h28
      by_cases h29 : x2 = (7 : Int32)
      · have hw := hw.1 h29
        refine lv_tableIn (tgt := 134) (off := 109) hx hb d_Md_look_25 (by rw [h29]; decide) (by rw [h29]; decide) (by rw [h29]; rfl) (by first | rfl | decide) ?_
        refine lv_aload_n hx hb d_Md_look_134 rfl (lv_at hl 1 rfl) ?_
        refine va_get (D := D) (ci := 6) (v := .ref (a1 16)) (C := R_Md) (T := F_Md) (N := 31) hx hb hts iw_Md hown hK.1 hP 0 rfl rfl 18 (by decide) (hts _ mw_445) (fun _ h => h) rfl d_Md_look_135 ?_
        refine lv_iload_n hx hb d_Md_look_138 rfl (lv_at hl 2 rfl) ?_
        obtain ⟨hin, hw⟩ := hw
        refine va_iald (f := (mmd_slot z1)) hx hb hK.1 hP 16 0 rfl rfl hin d_Md_look_139 ?_
        exact W.iret (v := ((mmd_slot z1) (x1).toNatClampNeg)) hx hb hr (fun t ht hW => ⟨⟨((mmd_slot z1) (x1).toNatClampNeg), z1, rfl, hw, by rw [ht]; exact hP, hD⟩, hS.F ht⟩) hS.2.2 d_Md_look_140
      have hw := hw.2 h29
      by_cases h30 : x2 = (8 : Int32)
      · have hw := hw.1 h30
        refine lv_tableIn (tgt := 141) (off := 116) hx hb d_Md_look_25 (by rw [h30]; decide) (by rw [h30]; decide) (by rw [h30]; rfl) (by first | rfl | decide) ?_
        refine lv_iload_n hx hb d_Md_look_141 rfl (lv_at hl 0 rfl) ?_
        refine lv_if_eq (tgt := 154) hx hb d_Md_look_142 (by first | rfl | decide) (fun h31 => ?_) (fun h31 => ?_)
        · exact absurd h31 (by decide)
        · skip
          refine lv_aload_n hx hb d_Md_look_145 rfl (lv_at hl 1 rfl) ?_
          refine va_get (D := D) (ci := 6) (v := .ref (a1 17)) (C := R_Md) (T := F_Md) (N := 31) hx hb hts iw_Md hown hK.1 hP 0 rfl rfl 19 (by decide) (hts _ mw_446) (fun _ h => h) rfl d_Md_look_146 ?_
          refine lv_iload_n hx hb d_Md_look_149 rfl (lv_at hl 2 rfl) ?_
          obtain ⟨hin, hw⟩ := hw
          refine va_iald (f := (mmd_ballot z1)) hx hb hK.1 hP 17 0 rfl rfl hin d_Md_look_150 ?_
          refine lv_goto (tgt := 155) hx hb d_Md_look_151 (by first | rfl | decide) ?_
          exact W.iret (v := ((mmd_ballot z1) (x1).toNatClampNeg)) hx hb hr (fun t ht hW => ⟨⟨((mmd_ballot z1) (x1).toNatClampNeg), z1, rfl, hw, by rw [ht]; exact hP, hD⟩, hS.F ht⟩) hS.2.2 d_Md_look_155
      have hw := hw.2 h30
      by_cases h32 : x2 = (9 : Int32)
      · have hw := hw.1 h32
        refine lv_tableIn (tgt := 156) (off := 131) hx hb d_Md_look_25 (by rw [h32]; decide) (by rw [h32]; decide) (by rw [h32]; rfl) (by first | rfl | decide) ?_
        refine lv_iload_n hx hb d_Md_look_156 rfl (lv_at hl 0 rfl) ?_
        refine lv_if_eq (tgt := 169) hx hb d_Md_look_157 (by first | rfl | decide) (fun h33 => ?_) (fun h33 => ?_)
        · exact absurd h33 (by decide)
        · skip
          refine lv_aload_n hx hb d_Md_look_160 rfl (lv_at hl 1 rfl) ?_
          refine va_get (D := D) (ci := 6) (v := .ref (a1 18)) (C := R_Md) (T := F_Md) (N := 31) hx hb hts iw_Md hown hK.1 hP 0 rfl rfl 20 (by decide) (hts _ mw_447) (fun _ h => h) rfl d_Md_look_161 ?_
          refine lv_iload_n hx hb d_Md_look_164 rfl (lv_at hl 2 rfl) ?_
          obtain ⟨hin, hw⟩ := hw
          refine va_iald (f := (mmd_promisers z1)) hx hb hK.1 hP 18 0 rfl rfl hin d_Md_look_165 ?_
          refine lv_goto (tgt := 170) hx hb d_Md_look_166 (by first | rfl | decide) ?_
          exact W.iret (v := ((mmd_promisers z1) (x1).toNatClampNeg)) hx hb hr (fun t ht hW => ⟨⟨((mmd_promisers z1) (x1).toNatClampNeg), z1, rfl, hw, by rw [ht]; exact hP, hD⟩, hS.F ht⟩) hS.2.2 d_Md_look_170
      have hw := hw.2 h32
      by_cases h34 : x2 = (10 : Int32)
      · have hw := hw.1 h34
        refine lv_tableIn (tgt := 171) (off := 146) hx hb d_Md_look_25 (by rw [h34]; decide) (by rw [h34]; decide) (by rw [h34]; rfl) (by first | rfl | decide) ?_
        refine lv_iload_n hx hb d_Md_look_171 rfl (lv_at hl 0 rfl) ?_
        refine lv_if_eq (tgt := 184) hx hb d_Md_look_172 (by first | rfl | decide) (fun h35 => ?_) (fun h35 => ?_)
        · exact absurd h35 (by decide)
        · skip
          refine lv_aload_n hx hb d_Md_look_175 rfl (lv_at hl 1 rfl) ?_
          refine va_get (D := D) (ci := 6) (v := .ref (a1 19)) (C := R_Md) (T := F_Md) (N := 31) hx hb hts iw_Md hown hK.1 hP 0 rfl rfl 21 (by decide) (hts _ mw_448) (fun _ h => h) rfl d_Md_look_176 ?_
          refine lv_iload_n hx hb d_Md_look_179 rfl (lv_at hl 2 rfl) ?_
          obtain ⟨hin, hw⟩ := hw
          refine va_iald (f := (mmd_voters z1)) hx hb hK.1 hP 19 0 rfl rfl hin d_Md_look_180 ?_
          refine lv_goto (tgt := 185) hx hb d_Md_look_181 (by first | rfl | decide) ?_
          exact W.iret (v := ((mmd_voters z1) (x1).toNatClampNeg)) hx hb hr (fun t ht hW => ⟨⟨((mmd_voters z1) (x1).toNatClampNeg), z1, rfl, hw, by rw [ht]; exact hP, hD⟩, hS.F ht⟩) hS.2.2 d_Md_look_185
      have hw := hw.2 h34
      refine lv_tableOut (tgt := 186) hx hb d_Md_look_25 (by have h20T := lv_neT (a := 0) h20 (by decide); have h21T := lv_neT (a := 1) h21 (by decide); have h22T := lv_neT (a := 2) h22 (by decide); have h23T := lv_neT (a := 3) h23 (by decide); have h26T := lv_neT (a := 4) h26 (by decide); have h27T := lv_neT (a := 5) h27 (by decide); have h28T := lv_neT (a := 6) h28 (by decide); have h29T := lv_neT (a := 7) h29 (by decide); have h30T := lv_neT (a := 8) h30 (by decide); have h32T := lv_neT (a := 9) h32 (by decide); have h34T := lv_neT (a := 10) h34 (by decide); omega) (by first | rfl | decide) ?_
      refine lv_iconst (v := (-1 : Int32)) hx hb d_Md_look_186 (by decide) ?_
      exact W.iret (v := (-1 : Int32)) hx hb hr (fun t ht hW => ⟨⟨(-1 : Int32), z1, rfl, hw, by rw [ht]; exact hP, hD⟩, hS.F ht⟩) hS.2.2 d_Md_look_187
  · have hw := hw.1 h2
    refine lv_iconst (v := (-1 : Int32)) hx hb d_Md_look_7 (by decide) ?_
    exact W.iret (v := (-1 : Int32)) hx hb hr (fun t ht hW => ⟨⟨(-1 : Int32), z1, rfl, hw, by rw [ht]; exact hP, hD⟩, hS.F ht⟩) hS.2.2 d_Md_look_8
set_option maxHeartbeats 4000000 in
set_option maxRecDepth 100000 in
theorem c_Md_value (l : Launch) (D : va_G) (cI cN cZ : ClassId) (a1 : Nat → Nat) (z1 : MmdT) (x1 : Int32) (x2 : Int32) (post : Int32 → MmdT → Prop) (hw : wp_Md_value z1 x1 x2 post) : km_I l y_Md_value (.code y_Md_value b_Md_value 3 (some .int) :: kmW) rm_Md_value D kmC (kmT cI cN cZ) kmF kmM [.ref (a1 0), .int x1, .int x2] (mmdW cI cN cZ a1 z1) (fun (r : Int32) (u : MmdT) => post r u) (fun (u : MmdT) => (mmdW cI cN cZ a1 u)) 0 0 := by
  refine km_startI (cc := b_Md_value) (maxL := 3) (ret := (some .int)) (by decide) rfl (Nat.le_of_ble_eq_true rfl) ?_
  intro p e s m below meth c A ls hE hA hK hP hD hS hl
  obtain ⟨hx, hb, hr, hml, hown, hts0, hlk, hnm⟩ := id hE
  have hts : ∀ w ∈ kmW, w.before ([.ref (a1 0), .int x1, .int x2] : List Value).toArray s = true := fun w h => hts0 w (List.mem_cons_of_mem _ h)
  have hP : va_P D kmC (mmdW cI cN cZ a1 z1) s.heap := hP
  have hl : lv_has ls 3 [(0, .ref (a1 0)), (1, .int x1), (2, .int x2)] := hl
  unfold wp_Md_value at hw
  refine lv_iload_n hx hb d_Md_value_0 rfl (lv_at hl 1 rfl) ?_
  refine km_ci (wr := [(a1 0, .inr (6, [.int (mmd_requests z1), .ref (a1 1), .ref (a1 2), .ref (a1 3), .ref (a1 4), .ref (a1 5), .int (mmd_router z1), .ref (a1 6), .int (mmd_up z1), .ref (a1 7), .ref (a1 8), .ref (a1 9), .ref (a1 10), .ref (a1 11), .ref (a1 12), .ref (a1 13), .ref (a1 14), .ref (a1 15), .ref (a1 16), .ref (a1 17), .ref (a1 18), .ref (a1 19), .ref (a1 20), .ref (a1 21), .ref (a1 22), .ref (a1 23), .ref (a1 24), .ref (a1 25), .int (mmd_members z1), .int (mmd_atC z1), .int (mmd_atE z1)])), (a1 1, .inl (cI, 31, .inl (mmd_kindOf z1))), (a1 2, .inl (cI, 31, .inl (mmd_keyOf z1))), (a1 3, .inl (cI, 31, .inl (mmd_numberOf z1))), (a1 4, .inl (cI, 31, .inl (mmd_heardOf z1))), (a1 5, .inl (cI, 31, .inl (mmd_replyOf z1))), (a1 6, .inl (cI, 45, .inl (mmd_decided z1))), (a1 7, .inl (cI, 6, .inl (mmd_configuration z1))), (a1 8, .inl (cI, 6, .inl (mmd_executed z1))), (a1 9, .inl (cI, 6, .inl (mmd_known z1))), (a1 10, .inl (cI, 6, .inl (mmd_last z1))), (a1 11, .inl (cI, 6, .inl (mmd_retired z1))), (a1 12, .inl (cI, 6, .inl (mmd_pending z1))), (a1 13, .inl (cI, 270, .inl (mmd_promised z1))), (a1 14, .inl (cI, 270, .inl (mmd_voteBallot z1))), (a1 15, .inl (cI, 270, .inl (mmd_voteCommand z1))), (a1 16, .inl (cI, 6, .inl (mmd_slot z1))), (a1 17, .inl (cI, 6, .inl (mmd_ballot z1))), (a1 18, .inl (cI, 6, .inl (mmd_promisers z1))), (a1 19, .inl (cI, 6, .inl (mmd_voters z1))), (a1 20, .inl (cI, 6, .inl (mmd_bestBallot z1))), (a1 21, .inl (cI, 6, .inl (mmd_bestCommand z1))), (a1 22, .inl (cI, 6, .inl (mmd_command z1))), (a1 23, .inl (cI, 4, .inl (mmd_values z1))), (a1 24, .inl (cZ, 31, .inl (mmd_done z1))), (a1 25, .inl (cI, 31, .inl (mmd_answers z1)))]) (km_rS (n := 1) hE kmG (c_Md_node l D cI cN cZ x1 _ hw) mw_535 mw_533 mw_534 mw_8 (by decide) ⟨rfl, rfl, ⟨by decide, by decide⟩, by decide, by decide⟩ hK (km_cut hP [] rfl) (hD.sub [] (by decide) rfl) rfl hl.1 rfl (Nat.le_of_ble_eq_true rfl) d_Md_value_1) hP hD hS hA [] [0, 1, 2, 3, 4, 5, 6, 7, 8, 9, 10, 11, 12, 13, 14, 15, 16, 17, 18, 19, 20, 21, 22, 23, 24, 25] rfl rfl (by decide) (by decide) (fun r1 _ H locs hw hP hD hS => ?_)
  have hP := hP.sub (ws' := (mmdW cI cN cZ a1 z1)) [0, 1, 2, 3, 4, 5, 6, 7, 8, 9, 10, 11, 12, 13, 14, 15, 16, 17, 18, 19, 20, 21, 22, 23, 24, 25] rfl
  have hD := hD.sub (ws' := (mmdW cI cN cZ a1 z1)) [0, 1, 2, 3, 4, 5, 6, 7, 8, 9, 10, 11, 12, 13, 14, 15, 16, 17, 18, 19, 20, 21, 22, 23, 24, 25] (by decide) rfl
  refine lv_if_eq (tgt := 16) hx hb d_Md_value_4 (by first | rfl | decide) (fun h2 => ?_) (fun h2 => ?_)
  · have hw := hw.1 h2
    refine lv_iconst (v := (0 : Int32)) hx hb d_Md_value_16 (by decide) ?_
    exact W.iret (v := (0 : Int32)) hx hb hr (fun t ht hW => ⟨⟨(0 : Int32), z1, rfl, hw, by rw [ht]; exact hP, hD⟩, hS.F ht⟩) hS.2.2 d_Md_value_17
  · have hw := hw.2 h2
    refine lv_iload_n hx hb d_Md_value_7 rfl (lv_at hl 2 rfl) ?_
    refine lv_if_lt (tgt := 16) hx hb d_Md_value_8 (by first | rfl | decide) (fun h3 => ?_) (fun h3 => ?_)
    · have hw := hw.1 h3
      refine lv_iconst (v := (0 : Int32)) hx hb d_Md_value_16 (by decide) ?_
      exact W.iret (v := (0 : Int32)) hx hb hr (fun t ht hW => ⟨⟨(0 : Int32), z1, rfl, hw, by rw [ht]; exact hP, hD⟩, hS.F ht⟩) hS.2.2 d_Md_value_17
    · have hw := hw.2 h3
      refine lv_iload_n hx hb d_Md_value_11 rfl (lv_at hl 2 rfl) ?_
      refine lv_iconst (v := (3 : Int32)) hx hb d_Md_value_12 (by decide) ?_
      refine lv_icmp_le (tgt := 18) hx hb d_Md_value_13 (by first | rfl | decide) (fun h4 => ?_) (fun h4 => ?_)
      · have hw := hw.1 h4
        refine lv_aload_n hx hb d_Md_value_18 rfl (lv_at hl 0 rfl) ?_
        refine lv_iload_n hx hb d_Md_value_19 rfl (lv_at hl 1 rfl) ?_
        refine km_cv (wr := []) (km_rV (n := 1) hE kmG (c_Md_replayOf l D cI cN cZ a1 z1 x1 _ hw) mw_543 mw_540 mw_542 mp_30 mw_8 (by decide) ⟨rfl, rfl, ⟨by decide, by decide⟩, by decide, by decide⟩ hK (km_cut hP [0, 1, 2, 3, 4, 5, 6, 7, 8, 9, 10, 11, 12, 13, 14, 15, 16, 17, 18, 19, 20, 21, 22, 23, 24, 25] rfl) (hD.sub [0, 1, 2, 3, 4, 5, 6, 7, 8, 9, 10, 11, 12, 13, 14, 15, 16, 17, 18, 19, 20, 21, 22, 23, 24, 25] (by decide) rfl) (ci := 6) rfl hP (q0 := 0) rfl rfl hl.1 rfl (Nat.le_of_ble_eq_true rfl) d_Md_value_20) hP hD hS hA [0, 1, 2, 3, 4, 5, 6, 7, 8, 9, 10, 11, 12, 13, 14, 15, 16, 17, 18, 19, 20, 21, 22, 23, 24, 25] [] rfl rfl (by decide) (by decide) (fun u6 H locs hw hP hD hS => ?_)
        have hP : va_P D kmC (mmdW cI cN cZ a1 u6) H := hP
        have hD : va_D A (mmdW cI cN cZ a1 u6) := hD
        refine lv_aload_n hx hb d_Md_value_23 rfl (lv_at hl 0 rfl) ?_
        refine va_get (D := D) (ci := 6) (v := .ref (a1 23)) (C := R_Md) (T := F_Md) (N := 31) hx hb hts iw_Md hown hK.1 hP 0 rfl rfl 25 (by decide) (hts _ mw_452) (fun _ h => h) rfl d_Md_value_24 ?_
        refine lv_iload_n hx hb d_Md_value_27 rfl (lv_at hl 2 rfl) ?_
        obtain ⟨hin, hw⟩ := hw
        refine va_iald (f := (mmd_values u6)) hx hb hK.1 hP 23 0 rfl rfl hin d_Md_value_28 ?_
        exact W.iret (v := ((mmd_values u6) (x2).toNatClampNeg)) hx hb hr (fun t ht hW => ⟨⟨((mmd_values u6) (x2).toNatClampNeg), u6, rfl, hw, by rw [ht]; exact hP, hD⟩, hS.F ht⟩) hS.2.2 d_Md_value_29
      · have hw := hw.2 h4
        refine lv_iconst (v := (0 : Int32)) hx hb d_Md_value_16 (by decide) ?_
        exact W.iret (v := (0 : Int32)) hx hb hr (fun t ht hW => ⟨⟨(0 : Int32), z1, rfl, hw, by rw [ht]; exact hP, hD⟩, hS.F ht⟩) hS.2.2 d_Md_value_17
set_option maxHeartbeats 4000000 in
set_option maxRecDepth 100000 in
theorem c_Md_promised (l : Launch) (D : va_G) (cI cN cZ : ClassId) (a1 : Nat → Nat) (z1 : MmdT) (x1 : Int32) (x2 : Int32) (x3 : Int32) (post : Int32 → MmdT → Prop) (hw : wp_Md_promised z1 x1 x2 x3 post) : km_I l y_Md_promised (.code y_Md_promised b_Md_promised 4 (some .int) :: kmW) rm_Md_promised D kmC (kmT cI cN cZ) kmF kmM [.ref (a1 0), .int x1, .int x2, .int x3] (mmdW cI cN cZ a1 z1) (fun (r : Int32) (u : MmdT) => post r u) (fun (u : MmdT) => (mmdW cI cN cZ a1 u)) 0 0 := by
  refine km_startI (cc := b_Md_promised) (maxL := 4) (ret := (some .int)) (by decide) rfl (Nat.le_of_ble_eq_true rfl) ?_
  intro p e s m below meth c A ls hE hA hK hP hD hS hl
  obtain ⟨hx, hb, hr, hml, hown, hts0, hlk, hnm⟩ := id hE
  have hts : ∀ w ∈ kmW, w.before ([.ref (a1 0), .int x1, .int x2, .int x3] : List Value).toArray s = true := fun w h => hts0 w (List.mem_cons_of_mem _ h)
  have hP : va_P D kmC (mmdW cI cN cZ a1 z1) s.heap := hP
  have hl : lv_has ls 4 [(0, .ref (a1 0)), (1, .int x1), (2, .int x2), (3, .int x3)] := hl
  unfold wp_Md_promised at hw
  refine lv_iload_n hx hb d_Md_promised_0 rfl (lv_at hl 1 rfl) ?_
  refine lv_iload_n hx hb d_Md_promised_1 rfl (lv_at hl 2 rfl) ?_
  refine lv_iload_n hx hb d_Md_promised_2 rfl (lv_at hl 3 rfl) ?_
  refine km_ci (wr := [(a1 0, .inr (6, [.int (mmd_requests z1), .ref (a1 1), .ref (a1 2), .ref (a1 3), .ref (a1 4), .ref (a1 5), .int (mmd_router z1), .ref (a1 6), .int (mmd_up z1), .ref (a1 7), .ref (a1 8), .ref (a1 9), .ref (a1 10), .ref (a1 11), .ref (a1 12), .ref (a1 13), .ref (a1 14), .ref (a1 15), .ref (a1 16), .ref (a1 17), .ref (a1 18), .ref (a1 19), .ref (a1 20), .ref (a1 21), .ref (a1 22), .ref (a1 23), .ref (a1 24), .ref (a1 25), .int (mmd_members z1), .int (mmd_atC z1), .int (mmd_atE z1)])), (a1 1, .inl (cI, 31, .inl (mmd_kindOf z1))), (a1 2, .inl (cI, 31, .inl (mmd_keyOf z1))), (a1 3, .inl (cI, 31, .inl (mmd_numberOf z1))), (a1 4, .inl (cI, 31, .inl (mmd_heardOf z1))), (a1 5, .inl (cI, 31, .inl (mmd_replyOf z1))), (a1 6, .inl (cI, 45, .inl (mmd_decided z1))), (a1 7, .inl (cI, 6, .inl (mmd_configuration z1))), (a1 8, .inl (cI, 6, .inl (mmd_executed z1))), (a1 9, .inl (cI, 6, .inl (mmd_known z1))), (a1 10, .inl (cI, 6, .inl (mmd_last z1))), (a1 11, .inl (cI, 6, .inl (mmd_retired z1))), (a1 12, .inl (cI, 6, .inl (mmd_pending z1))), (a1 13, .inl (cI, 270, .inl (mmd_promised z1))), (a1 14, .inl (cI, 270, .inl (mmd_voteBallot z1))), (a1 15, .inl (cI, 270, .inl (mmd_voteCommand z1))), (a1 16, .inl (cI, 6, .inl (mmd_slot z1))), (a1 17, .inl (cI, 6, .inl (mmd_ballot z1))), (a1 18, .inl (cI, 6, .inl (mmd_promisers z1))), (a1 19, .inl (cI, 6, .inl (mmd_voters z1))), (a1 20, .inl (cI, 6, .inl (mmd_bestBallot z1))), (a1 21, .inl (cI, 6, .inl (mmd_bestCommand z1))), (a1 22, .inl (cI, 6, .inl (mmd_command z1))), (a1 23, .inl (cI, 4, .inl (mmd_values z1))), (a1 24, .inl (cZ, 31, .inl (mmd_done z1))), (a1 25, .inl (cI, 31, .inl (mmd_answers z1)))]) (km_rS (n := 3) hE kmG (c_Md_cell l D cI cN cZ x1 x2 x3 _ hw) mw_639 mw_637 mw_638 mw_8 (by decide) ⟨rfl, rfl, ⟨by decide, by decide⟩, by decide, by decide⟩ hK (km_cut hP [] rfl) (hD.sub [] (by decide) rfl) rfl hl.1 rfl (Nat.le_of_ble_eq_true rfl) d_Md_promised_3) hP hD hS hA [] [0, 1, 2, 3, 4, 5, 6, 7, 8, 9, 10, 11, 12, 13, 14, 15, 16, 17, 18, 19, 20, 21, 22, 23, 24, 25] rfl rfl (by decide) (by decide) (fun r1 _ H locs hw hP hD hS => ?_)
  have hP := hP.sub (ws' := (mmdW cI cN cZ a1 z1)) [0, 1, 2, 3, 4, 5, 6, 7, 8, 9, 10, 11, 12, 13, 14, 15, 16, 17, 18, 19, 20, 21, 22, 23, 24, 25] rfl
  have hD := hD.sub (ws' := (mmdW cI cN cZ a1 z1)) [0, 1, 2, 3, 4, 5, 6, 7, 8, 9, 10, 11, 12, 13, 14, 15, 16, 17, 18, 19, 20, 21, 22, 23, 24, 25] (by decide) rfl
  refine lv_if_eq (tgt := 28) hx hb d_Md_promised_6 (by first | rfl | decide) (fun h2 => ?_) (fun h2 => ?_)
  · have hw := hw.1 h2
    refine lv_iconst (v := (-1 : Int32)) hx hb d_Md_promised_28 (by decide) ?_
    exact W.iret (v := (-1 : Int32)) hx hb hr (fun t ht hW => ⟨⟨(-1 : Int32), z1, rfl, hw, by rw [ht]; exact hP, hD⟩, hS.F ht⟩) hS.2.2 d_Md_promised_29
  · have hw := hw.2 h2
    refine lv_aload_n hx hb d_Md_promised_9 rfl (lv_at hl 0 rfl) ?_
    refine va_get (D := D) (ci := 6) (v := .ref (a1 13)) (C := R_Md) (T := F_Md) (N := 31) hx hb hts iw_Md hown hK.1 hP 0 rfl rfl 15 (by decide) (hts _ mw_442) (fun _ h => h) rfl d_Md_promised_10 ?_
    refine lv_bipush (v := (45 : Int32)) hx hb d_Md_promised_13 (by decide) ?_
    refine lv_iload_n hx hb d_Md_promised_15 rfl (lv_at hl 1 rfl) ?_
    refine lv_imul hx hb d_Md_promised_16 ?_
    refine lv_bipush (v := (9 : Int32)) hx hb d_Md_promised_17 (by decide) ?_
    refine lv_iload_n hx hb d_Md_promised_19 rfl (lv_at hl 2 rfl) ?_
    refine lv_imul hx hb d_Md_promised_20 ?_
    refine lv_iadd hx hb d_Md_promised_21 ?_
    refine lv_iload_n hx hb d_Md_promised_22 rfl (lv_at hl 3 rfl) ?_
    refine lv_iadd hx hb d_Md_promised_23 ?_
    obtain ⟨hin, hw⟩ := hw
    refine va_iald (f := (mmd_promised z1)) hx hb hK.1 hP 13 0 rfl rfl hin d_Md_promised_24 ?_
    refine lv_goto (tgt := 29) hx hb d_Md_promised_25 (by first | rfl | decide) ?_
    exact W.iret (v := ((mmd_promised z1) (((((45 : Int32) * x1) + ((9 : Int32) * x2)) + x3)).toNatClampNeg)) hx hb hr (fun t ht hW => ⟨⟨((mmd_promised z1) (((((45 : Int32) * x1) + ((9 : Int32) * x2)) + x3)).toNatClampNeg), z1, rfl, hw, by rw [ht]; exact hP, hD⟩, hS.F ht⟩) hS.2.2 d_Md_promised_29
set_option maxHeartbeats 4000000 in
set_option maxRecDepth 100000 in
theorem c_Md_vote (l : Launch) (D : va_G) (cI cN cZ : ClassId) (a1 : Nat → Nat) (z1 : MmdT) (x1 : Int32) (x2 : Int32) (x3 : Int32) (post : Int32 → MmdT → Prop) (hw : wp_Md_vote z1 x1 x2 x3 post) : km_I l y_Md_vote (.code y_Md_vote b_Md_vote 5 (some .int) :: kmW) rm_Md_vote D kmC (kmT cI cN cZ) kmF kmM [.ref (a1 0), .int x1, .int x2, .int x3] (mmdW cI cN cZ a1 z1) (fun (r : Int32) (u : MmdT) => post r u) (fun (u : MmdT) => (mmdW cI cN cZ a1 u)) 0 0 := by
  refine km_startI (cc := b_Md_vote) (maxL := 5) (ret := (some .int)) (by decide) rfl (Nat.le_of_ble_eq_true rfl) ?_
  intro p e s m below meth c A ls hE hA hK hP hD hS hl
  obtain ⟨hx, hb, hr, hml, hown, hts0, hlk, hnm⟩ := id hE
  have hts : ∀ w ∈ kmW, w.before ([.ref (a1 0), .int x1, .int x2, .int x3] : List Value).toArray s = true := fun w h => hts0 w (List.mem_cons_of_mem _ h)
  have hP : va_P D kmC (mmdW cI cN cZ a1 z1) s.heap := hP
  have hl : lv_has ls 5 [(0, .ref (a1 0)), (1, .int x1), (2, .int x2), (3, .int x3)] := hl
  unfold wp_Md_vote at hw
  refine lv_iload_n hx hb d_Md_vote_0 rfl (lv_at hl 1 rfl) ?_
  refine lv_iload_n hx hb d_Md_vote_1 rfl (lv_at hl 2 rfl) ?_
  refine lv_iload_n hx hb d_Md_vote_2 rfl (lv_at hl 3 rfl) ?_
  refine km_ci (wr := [(a1 0, .inr (6, [.int (mmd_requests z1), .ref (a1 1), .ref (a1 2), .ref (a1 3), .ref (a1 4), .ref (a1 5), .int (mmd_router z1), .ref (a1 6), .int (mmd_up z1), .ref (a1 7), .ref (a1 8), .ref (a1 9), .ref (a1 10), .ref (a1 11), .ref (a1 12), .ref (a1 13), .ref (a1 14), .ref (a1 15), .ref (a1 16), .ref (a1 17), .ref (a1 18), .ref (a1 19), .ref (a1 20), .ref (a1 21), .ref (a1 22), .ref (a1 23), .ref (a1 24), .ref (a1 25), .int (mmd_members z1), .int (mmd_atC z1), .int (mmd_atE z1)])), (a1 1, .inl (cI, 31, .inl (mmd_kindOf z1))), (a1 2, .inl (cI, 31, .inl (mmd_keyOf z1))), (a1 3, .inl (cI, 31, .inl (mmd_numberOf z1))), (a1 4, .inl (cI, 31, .inl (mmd_heardOf z1))), (a1 5, .inl (cI, 31, .inl (mmd_replyOf z1))), (a1 6, .inl (cI, 45, .inl (mmd_decided z1))), (a1 7, .inl (cI, 6, .inl (mmd_configuration z1))), (a1 8, .inl (cI, 6, .inl (mmd_executed z1))), (a1 9, .inl (cI, 6, .inl (mmd_known z1))), (a1 10, .inl (cI, 6, .inl (mmd_last z1))), (a1 11, .inl (cI, 6, .inl (mmd_retired z1))), (a1 12, .inl (cI, 6, .inl (mmd_pending z1))), (a1 13, .inl (cI, 270, .inl (mmd_promised z1))), (a1 14, .inl (cI, 270, .inl (mmd_voteBallot z1))), (a1 15, .inl (cI, 270, .inl (mmd_voteCommand z1))), (a1 16, .inl (cI, 6, .inl (mmd_slot z1))), (a1 17, .inl (cI, 6, .inl (mmd_ballot z1))), (a1 18, .inl (cI, 6, .inl (mmd_promisers z1))), (a1 19, .inl (cI, 6, .inl (mmd_voters z1))), (a1 20, .inl (cI, 6, .inl (mmd_bestBallot z1))), (a1 21, .inl (cI, 6, .inl (mmd_bestCommand z1))), (a1 22, .inl (cI, 6, .inl (mmd_command z1))), (a1 23, .inl (cI, 4, .inl (mmd_values z1))), (a1 24, .inl (cZ, 31, .inl (mmd_done z1))), (a1 25, .inl (cI, 31, .inl (mmd_answers z1)))]) (km_rS (n := 3) hE kmG (c_Md_cell l D cI cN cZ x1 x2 x3 _ hw) mw_639 mw_637 mw_638 mw_8 (by decide) ⟨rfl, rfl, ⟨by decide, by decide⟩, by decide, by decide⟩ hK (km_cut hP [] rfl) (hD.sub [] (by decide) rfl) rfl hl.1 rfl (Nat.le_of_ble_eq_true rfl) d_Md_vote_3) hP hD hS hA [] [0, 1, 2, 3, 4, 5, 6, 7, 8, 9, 10, 11, 12, 13, 14, 15, 16, 17, 18, 19, 20, 21, 22, 23, 24, 25] rfl rfl (by decide) (by decide) (fun r1 _ H locs hw hP hD hS => ?_)
  have hP := hP.sub (ws' := (mmdW cI cN cZ a1 z1)) [0, 1, 2, 3, 4, 5, 6, 7, 8, 9, 10, 11, 12, 13, 14, 15, 16, 17, 18, 19, 20, 21, 22, 23, 24, 25] rfl
  have hD := hD.sub (ws' := (mmdW cI cN cZ a1 z1)) [0, 1, 2, 3, 4, 5, 6, 7, 8, 9, 10, 11, 12, 13, 14, 15, 16, 17, 18, 19, 20, 21, 22, 23, 24, 25] (by decide) rfl
  refine lv_if_ne (tgt := 11) hx hb d_Md_vote_6 (by first | rfl | decide) (fun h2 => ?_) (fun h2 => ?_)
  · have hw := hw.2 h2
    refine lv_bipush (v := (45 : Int32)) hx hb d_Md_vote_11 (by decide) ?_
    refine lv_iload_n hx hb d_Md_vote_13 rfl (lv_at hl 1 rfl) ?_
    refine lv_imul hx hb d_Md_vote_14 ?_
    refine lv_bipush (v := (9 : Int32)) hx hb d_Md_vote_15 (by decide) ?_
    refine lv_iload_n hx hb d_Md_vote_17 rfl (lv_at hl 2 rfl) ?_
    refine lv_imul hx hb d_Md_vote_18 ?_
    refine lv_iadd hx hb d_Md_vote_19 ?_
    refine lv_iload_n hx hb d_Md_vote_20 rfl (lv_at hl 3 rfl) ?_
    refine lv_iadd hx hb d_Md_vote_21 ?_
    refine lv_topi (fun v3 ev3 => ?_)
    have hw := hw v3 ev3
    refine lv_istore (lv' := [(4, .int v3), (0, .ref (a1 0)), (1, .int x1), (2, .int x2), (3, .int x3)]) hx hb d_Md_vote_22 hl (by decide) rfl (fun ls hl => ?_)
    refine lv_aload_n hx hb d_Md_vote_24 rfl (lv_at hl 1 rfl) ?_
    refine va_get (D := D) (ci := 6) (v := .ref (a1 14)) (C := R_Md) (T := F_Md) (N := 31) hx hb hts iw_Md hown hK.1 hP 0 rfl rfl 16 (by decide) (hts _ mw_443) (fun _ h => h) rfl d_Md_vote_25 ?_
    refine lv_iload hx hb d_Md_vote_28 (lv_at hl 0 rfl) ?_
    obtain ⟨hin, hw⟩ := hw
    refine va_iald (f := (mmd_voteBallot z1)) hx hb hK.1 hP 14 0 rfl rfl hin d_Md_vote_30 ?_
    refine lv_if_le (tgt := 55) hx hb d_Md_vote_31 (by first | rfl | decide) (fun h4 => ?_) (fun h4 => ?_)
    · have hw := hw.1 h4
      refine lv_iconst (v := (0 : Int32)) hx hb d_Md_vote_55 (by decide) ?_
      exact W.iret (v := (0 : Int32)) hx hb hr (fun t ht hW => ⟨⟨(0 : Int32), z1, rfl, hw, by rw [ht]; exact hP, hD⟩, hS.F ht⟩) hS.2.2 d_Md_vote_56
    · have hw := hw.2 h4
      refine lv_bipush (v := (64 : Int32)) hx hb d_Md_vote_34 (by decide) ?_
      refine lv_aload_n hx hb d_Md_vote_36 rfl (lv_at hl 1 rfl) ?_
      refine va_get (D := D) (ci := 6) (v := .ref (a1 14)) (C := R_Md) (T := F_Md) (N := 31) hx hb hts iw_Md hown hK.1 hP 0 rfl rfl 16 (by decide) (hts _ mw_443) (fun _ h => h) rfl d_Md_vote_37 ?_
      refine lv_iload hx hb d_Md_vote_40 (lv_at hl 0 rfl) ?_
      obtain ⟨hin, hw⟩ := hw
      refine va_iald (f := (mmd_voteBallot z1)) hx hb hK.1 hP 14 0 rfl rfl hin d_Md_vote_42 ?_
      refine lv_imul hx hb d_Md_vote_43 ?_
      refine lv_aload_n hx hb d_Md_vote_44 rfl (lv_at hl 1 rfl) ?_
      refine va_get (D := D) (ci := 6) (v := .ref (a1 15)) (C := R_Md) (T := F_Md) (N := 31) hx hb hts iw_Md hown hK.1 hP 0 rfl rfl 17 (by decide) (hts _ mw_444) (fun _ h => h) rfl d_Md_vote_45 ?_
      refine lv_iload hx hb d_Md_vote_48 (lv_at hl 0 rfl) ?_
      obtain ⟨hin, hw⟩ := hw
      refine va_iald (f := (mmd_voteCommand z1)) hx hb hK.1 hP 15 0 rfl rfl hin d_Md_vote_50 ?_
      refine lv_iadd hx hb d_Md_vote_51 ?_
      refine lv_goto (tgt := 56) hx hb d_Md_vote_52 (by first | rfl | decide) ?_
      exact W.iret (v := (((64 : Int32) * ((mmd_voteBallot z1) (v3).toNatClampNeg)) + ((mmd_voteCommand z1) (v3).toNatClampNeg))) hx hb hr (fun t ht hW => ⟨⟨(((64 : Int32) * ((mmd_voteBallot z1) (v3).toNatClampNeg)) + ((mmd_voteCommand z1) (v3).toNatClampNeg)), z1, rfl, hw, by rw [ht]; exact hP, hD⟩, hS.F ht⟩) hS.2.2 d_Md_vote_56
  · have hw := hw.1 h2
    refine lv_iconst (v := (-1 : Int32)) hx hb d_Md_vote_9 (by decide) ?_
    exact W.iret (v := (-1 : Int32)) hx hb hr (fun t ht hW => ⟨⟨(-1 : Int32), z1, rfl, hw, by rw [ht]; exact hP, hD⟩, hS.F ht⟩) hS.2.2 d_Md_vote_10
set_option maxHeartbeats 4000000 in
set_option maxRecDepth 100000 in
theorem c_Md_known (l : Launch) (D : va_G) (cI cN cZ : ClassId) (a1 : Nat → Nat) (z1 : MmdT) (x1 : Int32) (x2 : Int32) (post : Int32 → MmdT → Prop) (hw : wp_Md_known z1 x1 x2 post) : km_I l y_Md_known (.code y_Md_known b_Md_known 3 (some .int) :: kmW) rm_Md_known D kmC (kmT cI cN cZ) kmF kmM [.ref (a1 0), .int x1, .int x2] (mmdW cI cN cZ a1 z1) (fun (r : Int32) (u : MmdT) => post r u) (fun (u : MmdT) => (mmdW cI cN cZ a1 u)) 0 0 := by
  refine km_startI (cc := b_Md_known) (maxL := 3) (ret := (some .int)) (by decide) rfl (Nat.le_of_ble_eq_true rfl) ?_
  intro p e s m below meth c A ls hE hA hK hP hD hS hl
  obtain ⟨hx, hb, hr, hml, hown, hts0, hlk, hnm⟩ := id hE
  have hts : ∀ w ∈ kmW, w.before ([.ref (a1 0), .int x1, .int x2] : List Value).toArray s = true := fun w h => hts0 w (List.mem_cons_of_mem _ h)
  have hP : va_P D kmC (mmdW cI cN cZ a1 z1) s.heap := hP
  have hl : lv_has ls 3 [(0, .ref (a1 0)), (1, .int x1), (2, .int x2)] := hl
  unfold wp_Md_known at hw
  refine lv_iload_n hx hb d_Md_known_0 rfl (lv_at hl 1 rfl) ?_
  refine lv_iconst (v := (0 : Int32)) hx hb d_Md_known_1 (by decide) ?_
  refine lv_iload_n hx hb d_Md_known_2 rfl (lv_at hl 2 rfl) ?_
  refine km_ci (wr := [(a1 0, .inr (6, [.int (mmd_requests z1), .ref (a1 1), .ref (a1 2), .ref (a1 3), .ref (a1 4), .ref (a1 5), .int (mmd_router z1), .ref (a1 6), .int (mmd_up z1), .ref (a1 7), .ref (a1 8), .ref (a1 9), .ref (a1 10), .ref (a1 11), .ref (a1 12), .ref (a1 13), .ref (a1 14), .ref (a1 15), .ref (a1 16), .ref (a1 17), .ref (a1 18), .ref (a1 19), .ref (a1 20), .ref (a1 21), .ref (a1 22), .ref (a1 23), .ref (a1 24), .ref (a1 25), .int (mmd_members z1), .int (mmd_atC z1), .int (mmd_atE z1)])), (a1 1, .inl (cI, 31, .inl (mmd_kindOf z1))), (a1 2, .inl (cI, 31, .inl (mmd_keyOf z1))), (a1 3, .inl (cI, 31, .inl (mmd_numberOf z1))), (a1 4, .inl (cI, 31, .inl (mmd_heardOf z1))), (a1 5, .inl (cI, 31, .inl (mmd_replyOf z1))), (a1 6, .inl (cI, 45, .inl (mmd_decided z1))), (a1 7, .inl (cI, 6, .inl (mmd_configuration z1))), (a1 8, .inl (cI, 6, .inl (mmd_executed z1))), (a1 9, .inl (cI, 6, .inl (mmd_known z1))), (a1 10, .inl (cI, 6, .inl (mmd_last z1))), (a1 11, .inl (cI, 6, .inl (mmd_retired z1))), (a1 12, .inl (cI, 6, .inl (mmd_pending z1))), (a1 13, .inl (cI, 270, .inl (mmd_promised z1))), (a1 14, .inl (cI, 270, .inl (mmd_voteBallot z1))), (a1 15, .inl (cI, 270, .inl (mmd_voteCommand z1))), (a1 16, .inl (cI, 6, .inl (mmd_slot z1))), (a1 17, .inl (cI, 6, .inl (mmd_ballot z1))), (a1 18, .inl (cI, 6, .inl (mmd_promisers z1))), (a1 19, .inl (cI, 6, .inl (mmd_voters z1))), (a1 20, .inl (cI, 6, .inl (mmd_bestBallot z1))), (a1 21, .inl (cI, 6, .inl (mmd_bestCommand z1))), (a1 22, .inl (cI, 6, .inl (mmd_command z1))), (a1 23, .inl (cI, 4, .inl (mmd_values z1))), (a1 24, .inl (cZ, 31, .inl (mmd_done z1))), (a1 25, .inl (cI, 31, .inl (mmd_answers z1)))]) (km_rS (n := 3) hE kmG (c_Md_cell l D cI cN cZ x1 (0 : Int32) x2 _ hw) mw_639 mw_637 mw_638 mw_8 (by decide) ⟨rfl, rfl, ⟨by decide, by decide⟩, by decide, by decide⟩ hK (km_cut hP [] rfl) (hD.sub [] (by decide) rfl) rfl hl.1 rfl (Nat.le_of_ble_eq_true rfl) d_Md_known_3) hP hD hS hA [] [0, 1, 2, 3, 4, 5, 6, 7, 8, 9, 10, 11, 12, 13, 14, 15, 16, 17, 18, 19, 20, 21, 22, 23, 24, 25] rfl rfl (by decide) (by decide) (fun r1 _ H locs hw hP hD hS => ?_)
  have hP := hP.sub (ws' := (mmdW cI cN cZ a1 z1)) [0, 1, 2, 3, 4, 5, 6, 7, 8, 9, 10, 11, 12, 13, 14, 15, 16, 17, 18, 19, 20, 21, 22, 23, 24, 25] rfl
  have hD := hD.sub (ws' := (mmdW cI cN cZ a1 z1)) [0, 1, 2, 3, 4, 5, 6, 7, 8, 9, 10, 11, 12, 13, 14, 15, 16, 17, 18, 19, 20, 21, 22, 23, 24, 25] (by decide) rfl
  refine lv_if_eq (tgt := 18) hx hb d_Md_known_6 (by first | rfl | decide) (fun h2 => ?_) (fun h2 => ?_)
  · have hw := hw.1 h2
    refine lv_iconst (v := (-1 : Int32)) hx hb d_Md_known_18 (by decide) ?_
    exact W.iret (v := (-1 : Int32)) hx hb hr (fun t ht hW => ⟨⟨(-1 : Int32), z1, rfl, hw, by rw [ht]; exact hP, hD⟩, hS.F ht⟩) hS.2.2 d_Md_known_19
  · have hw := hw.2 h2
    refine lv_aload_n hx hb d_Md_known_9 rfl (lv_at hl 0 rfl) ?_
    refine lv_iload_n hx hb d_Md_known_10 rfl (lv_at hl 1 rfl) ?_
    refine lv_iload_n hx hb d_Md_known_11 rfl (lv_at hl 2 rfl) ?_
    refine km_ci (wr := []) (km_rV (n := 2) hE kmG (c_Md_knows l D cI cN cZ a1 z1 x1 x2 _ hw) mw_567 mw_564 mw_566 mp_34 mw_8 (by decide) ⟨rfl, rfl, ⟨by decide, by decide⟩, by decide, by decide⟩ hK (km_cut hP [0, 1, 2, 3, 4, 5, 6, 7, 8, 9, 10, 11, 12, 13, 14, 15, 16, 17, 18, 19, 20, 21, 22, 23, 24, 25] rfl) (hD.sub [0, 1, 2, 3, 4, 5, 6, 7, 8, 9, 10, 11, 12, 13, 14, 15, 16, 17, 18, 19, 20, 21, 22, 23, 24, 25] (by decide) rfl) (ci := 6) rfl hP (q0 := 0) rfl rfl hl.1 rfl (Nat.le_of_ble_eq_true rfl) d_Md_known_12) hP hD hS hA [0, 1, 2, 3, 4, 5, 6, 7, 8, 9, 10, 11, 12, 13, 14, 15, 16, 17, 18, 19, 20, 21, 22, 23, 24, 25] [] rfl rfl (by decide) (by decide) (fun r3 u4 H locs hw hP hD hS => ?_)
    have hP : va_P D kmC (mmdW cI cN cZ a1 u4) H := hP
    have hD : va_D A (mmdW cI cN cZ a1 u4) := hD
    refine lv_if_ne (tgt := 20) hx hb d_Md_known_15 (by first | rfl | decide) (fun h5 => ?_) (fun h5 => ?_)
    · have hw := hw.2 h5
      refine lv_aload_n hx hb d_Md_known_20 rfl (lv_at hl 0 rfl) ?_
      refine va_get (D := D) (ci := 6) (v := .ref (a1 6)) (C := R_Md) (T := F_Md) (N := 31) hx hb hts iw_Md hown hK.1 hP 0 rfl rfl 7 (by decide) (hts _ mw_434) (fun _ h => h) rfl d_Md_known_21 ?_
      refine lv_bipush (v := (9 : Int32)) hx hb d_Md_known_24 (by decide) ?_
      refine lv_aload_n hx hb d_Md_known_26 rfl (lv_at hl 0 rfl) ?_
      refine va_get (D := D) (ci := 6) (v := .ref (a1 7)) (C := R_Md) (T := F_Md) (N := 31) hx hb hts iw_Md hown hK.1 hP 0 rfl rfl 9 (by decide) (hts _ mw_436) (fun _ h => h) rfl d_Md_known_27 ?_
      refine lv_iload_n hx hb d_Md_known_30 rfl (lv_at hl 1 rfl) ?_
      obtain ⟨hin, hw⟩ := hw
      refine va_iald (f := (mmd_configuration u4)) hx hb hK.1 hP 7 0 rfl rfl hin d_Md_known_31 ?_
      refine lv_imul hx hb d_Md_known_32 ?_
      refine lv_iload_n hx hb d_Md_known_33 rfl (lv_at hl 2 rfl) ?_
      refine lv_iadd hx hb d_Md_known_34 ?_
      obtain ⟨hin, hw⟩ := hw
      refine va_iald (f := (mmd_decided u4)) hx hb hK.1 hP 6 0 rfl rfl hin d_Md_known_35 ?_
      exact W.iret (v := ((mmd_decided u4) ((((9 : Int32) * ((mmd_configuration u4) (x1).toNatClampNeg)) + x2)).toNatClampNeg)) hx hb hr (fun t ht hW => ⟨⟨((mmd_decided u4) ((((9 : Int32) * ((mmd_configuration u4) (x1).toNatClampNeg)) + x2)).toNatClampNeg), u4, rfl, hw, by rw [ht]; exact hP, hD⟩, hS.F ht⟩) hS.2.2 d_Md_known_36
    · have hw := hw.1 h5
      refine lv_iconst (v := (-1 : Int32)) hx hb d_Md_known_18 (by decide) ?_
      exact W.iret (v := (-1 : Int32)) hx hb hr (fun t ht hW => ⟨⟨(-1 : Int32), u4, rfl, hw, by rw [ht]; exact hP, hD⟩, hS.F ht⟩) hS.2.2 d_Md_known_19
set_option maxHeartbeats 4000000 in
set_option maxRecDepth 100000 in
theorem c_Md_reply (l : Launch) (D : va_G) (cI cN cZ : ClassId) (a1 : Nat → Nat) (z1 : MmdT) (x1 : Int32) (post : Int32 → MmdT → Prop) (hw : wp_Md_reply z1 x1 post) : km_I l y_Md_reply (.code y_Md_reply b_Md_reply 2 (some .int) :: kmW) rm_Md_reply D kmC (kmT cI cN cZ) kmF kmM [.ref (a1 0), .int x1] (mmdW cI cN cZ a1 z1) (fun (r : Int32) (u : MmdT) => post r u) (fun (u : MmdT) => (mmdW cI cN cZ a1 u)) 0 0 := by
  refine km_startI (cc := b_Md_reply) (maxL := 2) (ret := (some .int)) (by decide) rfl (Nat.le_of_ble_eq_true rfl) ?_
  intro p e s m below meth c A ls hE hA hK hP hD hS hl
  obtain ⟨hx, hb, hr, hml, hown, hts0, hlk, hnm⟩ := id hE
  have hts : ∀ w ∈ kmW, w.before ([.ref (a1 0), .int x1] : List Value).toArray s = true := fun w h => hts0 w (List.mem_cons_of_mem _ h)
  have hP : va_P D kmC (mmdW cI cN cZ a1 z1) s.heap := hP
  have hl : lv_has ls 2 [(0, .ref (a1 0)), (1, .int x1)] := hl
  unfold wp_Md_reply at hw
  refine lv_iload_n hx hb d_Md_reply_0 rfl (lv_at hl 1 rfl) ?_
  refine lv_iconst (v := (1 : Int32)) hx hb d_Md_reply_1 (by decide) ?_
  refine lv_icmp_lt (tgt := 13) hx hb d_Md_reply_2 (by first | rfl | decide) (fun h1 => ?_) (fun h1 => ?_)
  · have hw := hw.1 h1
    refine lv_iconst (v := (0 : Int32)) hx hb d_Md_reply_13 (by decide) ?_
    refine lv_goto (tgt := 23) hx hb d_Md_reply_14 (by first | rfl | decide) ?_
    exact W.iret (v := (0 : Int32)) hx hb hr (fun t ht hW => ⟨⟨(0 : Int32), z1, rfl, hw, by rw [ht]; exact hP, hD⟩, hS.F ht⟩) hS.2.2 d_Md_reply_23
  · have hw := hw.2 h1
    refine lv_iload_n hx hb d_Md_reply_5 rfl (lv_at hl 1 rfl) ?_
    refine lv_aload_n hx hb d_Md_reply_6 rfl (lv_at hl 0 rfl) ?_
    refine va_get (D := D) (ci := 6) (v := .int (mmd_requests z1)) (C := R_Md) (T := F_Md) (N := 31) hx hb hts iw_Md hown hK.1 hP 0 rfl rfl 0 (by decide) (hts _ mw_427) (fun _ h => h) rfl d_Md_reply_7 ?_
    refine lv_icmp_le (tgt := 17) hx hb d_Md_reply_10 (by first | rfl | decide) (fun h2 => ?_) (fun h2 => ?_)
    · have hw := hw.1 h2
      refine lv_aload_n hx hb d_Md_reply_17 rfl (lv_at hl 0 rfl) ?_
      refine va_get (D := D) (ci := 6) (v := .ref (a1 5)) (C := R_Md) (T := F_Md) (N := 31) hx hb hts iw_Md hown hK.1 hP 0 rfl rfl 5 (by decide) (hts _ mw_432) (fun _ h => h) rfl d_Md_reply_18 ?_
      refine lv_iload_n hx hb d_Md_reply_21 rfl (lv_at hl 1 rfl) ?_
      obtain ⟨hin, hw⟩ := hw
      refine va_iald (f := (mmd_replyOf z1)) hx hb hK.1 hP 5 0 rfl rfl hin d_Md_reply_22 ?_
      exact W.iret (v := ((mmd_replyOf z1) (x1).toNatClampNeg)) hx hb hr (fun t ht hW => ⟨⟨((mmd_replyOf z1) (x1).toNatClampNeg), z1, rfl, hw, by rw [ht]; exact hP, hD⟩, hS.F ht⟩) hS.2.2 d_Md_reply_23
    · have hw := hw.2 h2
      refine lv_iconst (v := (0 : Int32)) hx hb d_Md_reply_13 (by decide) ?_
      refine lv_goto (tgt := 23) hx hb d_Md_reply_14 (by first | rfl | decide) ?_
      exact W.iret (v := (0 : Int32)) hx hb hr (fun t ht hW => ⟨⟨(0 : Int32), z1, rfl, hw, by rw [ht]; exact hP, hD⟩, hS.F ht⟩) hS.2.2 d_Md_reply_23
set_option maxHeartbeats 4000000 in
set_option maxRecDepth 100000 in
theorem c_Md_heard (l : Launch) (D : va_G) (cI cN cZ : ClassId) (a1 : Nat → Nat) (z1 : MmdT) (x1 : Int32) (post : Int32 → MmdT → Prop) (hw : wp_Md_heard z1 x1 post) : km_I l y_Md_heard (.code y_Md_heard b_Md_heard 2 (some .int) :: kmW) rm_Md_heard D kmC (kmT cI cN cZ) kmF kmM [.ref (a1 0), .int x1] (mmdW cI cN cZ a1 z1) (fun (r : Int32) (u : MmdT) => post r u) (fun (u : MmdT) => (mmdW cI cN cZ a1 u)) 0 0 := by
  refine km_startI (cc := b_Md_heard) (maxL := 2) (ret := (some .int)) (by decide) rfl (Nat.le_of_ble_eq_true rfl) ?_
  intro p e s m below meth c A ls hE hA hK hP hD hS hl
  obtain ⟨hx, hb, hr, hml, hown, hts0, hlk, hnm⟩ := id hE
  have hts : ∀ w ∈ kmW, w.before ([.ref (a1 0), .int x1] : List Value).toArray s = true := fun w h => hts0 w (List.mem_cons_of_mem _ h)
  have hP : va_P D kmC (mmdW cI cN cZ a1 z1) s.heap := hP
  have hl : lv_has ls 2 [(0, .ref (a1 0)), (1, .int x1)] := hl
  unfold wp_Md_heard at hw
  refine lv_iload_n hx hb d_Md_heard_0 rfl (lv_at hl 1 rfl) ?_
  refine lv_iconst (v := (1 : Int32)) hx hb d_Md_heard_1 (by decide) ?_
  refine lv_icmp_lt (tgt := 13) hx hb d_Md_heard_2 (by first | rfl | decide) (fun h1 => ?_) (fun h1 => ?_)
  · have hw := hw.1 h1
    refine lv_iconst (v := (0 : Int32)) hx hb d_Md_heard_13 (by decide) ?_
    refine lv_goto (tgt := 23) hx hb d_Md_heard_14 (by first | rfl | decide) ?_
    exact W.iret (v := (0 : Int32)) hx hb hr (fun t ht hW => ⟨⟨(0 : Int32), z1, rfl, hw, by rw [ht]; exact hP, hD⟩, hS.F ht⟩) hS.2.2 d_Md_heard_23
  · have hw := hw.2 h1
    refine lv_iload_n hx hb d_Md_heard_5 rfl (lv_at hl 1 rfl) ?_
    refine lv_aload_n hx hb d_Md_heard_6 rfl (lv_at hl 0 rfl) ?_
    refine va_get (D := D) (ci := 6) (v := .int (mmd_requests z1)) (C := R_Md) (T := F_Md) (N := 31) hx hb hts iw_Md hown hK.1 hP 0 rfl rfl 0 (by decide) (hts _ mw_427) (fun _ h => h) rfl d_Md_heard_7 ?_
    refine lv_icmp_le (tgt := 17) hx hb d_Md_heard_10 (by first | rfl | decide) (fun h2 => ?_) (fun h2 => ?_)
    · have hw := hw.1 h2
      refine lv_aload_n hx hb d_Md_heard_17 rfl (lv_at hl 0 rfl) ?_
      refine va_get (D := D) (ci := 6) (v := .ref (a1 4)) (C := R_Md) (T := F_Md) (N := 31) hx hb hts iw_Md hown hK.1 hP 0 rfl rfl 4 (by decide) (hts _ mw_431) (fun _ h => h) rfl d_Md_heard_18 ?_
      refine lv_iload_n hx hb d_Md_heard_21 rfl (lv_at hl 1 rfl) ?_
      obtain ⟨hin, hw⟩ := hw
      refine va_iald (f := (mmd_heardOf z1)) hx hb hK.1 hP 4 0 rfl rfl hin d_Md_heard_22 ?_
      exact W.iret (v := ((mmd_heardOf z1) (x1).toNatClampNeg)) hx hb hr (fun t ht hW => ⟨⟨((mmd_heardOf z1) (x1).toNatClampNeg), z1, rfl, hw, by rw [ht]; exact hP, hD⟩, hS.F ht⟩) hS.2.2 d_Md_heard_23
    · have hw := hw.2 h2
      refine lv_iconst (v := (0 : Int32)) hx hb d_Md_heard_13 (by decide) ?_
      refine lv_goto (tgt := 23) hx hb d_Md_heard_14 (by first | rfl | decide) ?_
      exact W.iret (v := (0 : Int32)) hx hb hr (fun t ht hW => ⟨⟨(0 : Int32), z1, rfl, hw, by rw [ht]; exact hP, hD⟩, hS.F ht⟩) hS.2.2 d_Md_heard_23
