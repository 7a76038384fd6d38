theorem d_Md_promise_0 : decode b_Md_promise 0 = .ok (.aload_n 0, 1) := by decide +kernel
theorem d_Md_promise_1 : decode b_Md_promise 1 = .ok (.iload_n 1, 1) := by decide +kernel
theorem d_Md_promise_2 : decode b_Md_promise 2 = .ok (.iload_n 2, 1) := by decide +kernel
theorem d_Md_promise_3 : decode b_Md_promise 3 = .ok (.iconst 0, 1) := by decide +kernel
theorem d_Md_promise_4 : decode b_Md_promise 4 = .ok (.invokevirtual 148, 3) := by decide +kernel
theorem d_Md_promise_7 : decode b_Md_promise 7 = .ok (.istore 4, 2) := by decide +kernel
theorem d_Md_promise_9 : decode b_Md_promise 9 = .ok (.iload 4, 2) := by decide +kernel
theorem d_Md_promise_11 : decode b_Md_promise 11 = .ok (.iconst 1, 1) := by decide +kernel
theorem d_Md_promise_12 : decode b_Md_promise 12 = .ok (.if_icmp .ge 6, 3) := by decide +kernel
theorem d_Md_promise_15 : decode b_Md_promise 15 = .ok (.iload 4, 2) := by decide +kernel
theorem d_Md_promise_17 : decode b_Md_promise 17 = .ok (.ireturn, 1) := by decide +kernel
theorem d_Md_promise_18 : decode b_Md_promise 18 = .ok (.bipush 45, 2) := by decide +kernel
theorem d_Md_promise_20 : decode b_Md_promise 20 = .ok (.iload_n 2, 1) := by decide +kernel
theorem d_Md_promise_21 : decode b_Md_promise 21 = .ok (.imul, 1) := by decide +kernel
theorem d_Md_promise_22 : decode b_Md_promise 22 = .ok (.bipush 9, 2) := by decide +kernel
theorem d_Md_promise_24 : decode b_Md_promise 24 = .ok (.aload_n 0, 1) := by decide +kernel
theorem d_Md_promise_25 : decode b_Md_promise 25 = .ok (.getfield 32, 3) := by decide +kernel
theorem d_Md_promise_28 : decode b_Md_promise 28 = .ok (.iload_n 1, 1) := by decide +kernel
theorem d_Md_promise_29 : decode b_Md_promise 29 = .ok (.iaload, 1) := by decide +kernel
theorem d_Md_promise_30 : decode b_Md_promise 30 = .ok (.imul, 1) := by decide +kernel
theorem d_Md_promise_31 : decode b_Md_promise 31 = .ok (.iadd, 1) := by decide +kernel
theorem d_Md_promise_32 : decode b_Md_promise 32 = .ok (.aload_n 0, 1) := by decide +kernel
theorem d_Md_promise_33 : decode b_Md_promise 33 = .ok (.getfield 59, 3) := by decide +kernel
theorem d_Md_promise_36 : decode b_Md_promise 36 = .ok (.iload_n 1, 1) := by decide +kernel
theorem d_Md_promise_37 : decode b_Md_promise 37 = .ok (.iaload, 1) := by decide +kernel
theorem d_Md_promise_38 : decode b_Md_promise 38 = .ok (.iadd, 1) := by decide +kernel
theorem d_Md_promise_39 : decode b_Md_promise 39 = .ok (.istore 5, 2) := by decide +kernel
theorem d_Md_promise_41 : decode b_Md_promise 41 = .ok (.aload_n 0, 1) := by decide +kernel
theorem d_Md_promise_42 : decode b_Md_promise 42 = .ok (.iload_n 1, 1) := by decide +kernel
theorem d_Md_promise_43 : decode b_Md_promise 43 = .ok (.iload_n 2, 1) := by decide +kernel
theorem d_Md_promise_44 : decode b_Md_promise 44 = .ok (.iload_n 3, 1) := by decide +kernel
theorem d_Md_promise_45 : decode b_Md_promise 45 = .ok (.invokevirtual 152, 3) := by decide +kernel
theorem d_Md_promise_48 : decode b_Md_promise 48 = .ok (.istore 6, 2) := by decide +kernel
theorem d_Md_promise_50 : decode b_Md_promise 50 = .ok (.iload 6, 2) := by decide +kernel
theorem d_Md_promise_52 : decode b_Md_promise 52 = .ok (.iconst 1, 1) := by decide +kernel
theorem d_Md_promise_53 : decode b_Md_promise 53 = .ok (.if_icmp .ne 7, 3) := by decide +kernel
theorem d_Md_promise_56 : decode b_Md_promise 56 = .ok (.iload_n 3, 1) := by decide +kernel
theorem d_Md_promise_57 : decode b_Md_promise 57 = .ok (.ifCond .ne 6, 3) := by decide +kernel
theorem d_Md_promise_60 : decode b_Md_promise 60 = .ok (.iload 6, 2) := by decide +kernel
theorem d_Md_promise_62 : decode b_Md_promise 62 = .ok (.ireturn, 1) := by decide +kernel
theorem d_Md_promise_63 : decode b_Md_promise 63 = .ok (.aload_n 0, 1) := by decide +kernel
theorem d_Md_promise_64 : decode b_Md_promise 64 = .ok (.getfield 65, 3) := by decide +kernel
theorem d_Md_promise_67 : decode b_Md_promise 67 = .ok (.iload_n 1, 1) := by decide +kernel
theorem d_Md_promise_68 : decode b_Md_promise 68 = .ok (.dup2, 1) := by decide +kernel
theorem d_Md_promise_69 : decode b_Md_promise 69 = .ok (.iaload, 1) := by decide +kernel
theorem d_Md_promise_70 : decode b_Md_promise 70 = .ok (.iconst 1, 1) := by decide +kernel
theorem d_Md_promise_71 : decode b_Md_promise 71 = .ok (.iload_n 2, 1) := by decide +kernel
theorem d_Md_promise_72 : decode b_Md_promise 72 = .ok (.ishl, 1) := by decide +kernel
theorem d_Md_promise_73 : decode b_Md_promise 73 = .ok (.ior, 1) := by decide +kernel
theorem d_Md_promise_74 : decode b_Md_promise 74 = .ok (.iastore, 1) := by decide +kernel
theorem d_Md_promise_75 : decode b_Md_promise 75 = .ok (.aload_n 0, 1) := by decide +kernel
theorem d_Md_promise_76 : decode b_Md_promise 76 = .ok (.getfield 53, 3) := by decide +kernel
theorem d_Md_promise_79 : decode b_Md_promise 79 = .ok (.iload 5, 2) := by decide +kernel
theorem d_Md_promise_81 : decode b_Md_promise 81 = .ok (.iaload, 1) := by decide +kernel
theorem d_Md_promise_82 : decode b_Md_promise 82 = .ok (.aload_n 0, 1) := by decide +kernel
theorem d_Md_promise_83 : decode b_Md_promise 83 = .ok (.getfield 71, 3) := by decide +kernel
theorem d_Md_promise_86 : decode b_Md_promise 86 = .ok (.iload_n 1, 1) := by decide +kernel
theorem d_Md_promise_87 : decode b_Md_promise 87 = .ok (.iaload, 1) := by decide +kernel
theorem d_Md_promise_88 : decode b_Md_promise 88 = .ok (.if_icmp .le 29, 3) := by decide +kernel
theorem d_Md_promise_91 : decode b_Md_promise 91 = .ok (.aload_n 0, 1) := by decide +kernel
theorem d_Md_promise_92 : decode b_Md_promise 92 = .ok (.getfield 71, 3) := by decide +kernel
theorem d_Md_promise_95 : decode b_Md_promise 95 = .ok (.iload_n 1, 1) := by decide +kernel
theorem d_Md_promise_96 : decode b_Md_promise 96 = .ok (.aload_n 0, 1) := by decide +kernel
theorem d_Md_promise_97 : decode b_Md_promise 97 = .ok (.getfield 53, 3) := by decide +kernel
theorem d_Md_promise_100 : decode b_Md_promise 100 = .ok (.iload 5, 2) := by decide +kernel
theorem d_Md_promise_102 : decode b_Md_promise 102 = .ok (.iaload, 1) := by decide +kernel
theorem d_Md_promise_103 : decode b_Md_promise 103 = .ok (.iastore, 1) := by decide +kernel
theorem d_Md_promise_104 : decode b_Md_promise 104 = .ok (.aload_n 0, 1) := by decide +kernel
theorem d_Md_promise_105 : decode b_Md_promise 105 = .ok (.getfield 74, 3) := by decide +kernel
theorem d_Md_promise_108 : decode b_Md_promise 108 = .ok (.iload_n 1, 1) := by decide +kernel
theorem d_Md_promise_109 : decode b_Md_promise 109 = .ok (.aload_n 0, 1) := by decide +kernel
theorem d_Md_promise_110 : decode b_Md_promise 110 = .ok (.getfield 56, 3) := by decide +kernel
theorem d_Md_promise_113 : decode b_Md_promise 113 = .ok (.iload 5, 2) := by decide +kernel
theorem d_Md_promise_115 : decode b_Md_promise 115 = .ok (.iaload, 1) := by decide +kernel
theorem d_Md_promise_116 : decode b_Md_promise 116 = .ok (.iastore, 1) := by decide +kernel
theorem d_Md_promise_117 : decode b_Md_promise 117 = .ok (.iconst 1, 1) := by decide +kernel
theorem d_Md_promise_118 : decode b_Md_promise 118 = .ok (.ireturn, 1) := by decide +kernel
theorem d_Md_choose_0 : decode b_Md_choose 0 = .ok (.aload_n 0, 1) := by decide +kernel
theorem d_Md_choose_1 : decode b_Md_choose 1 = .ok (.iload_n 1, 1) := by decide +kernel
theorem d_Md_choose_2 : decode b_Md_choose 2 = .ok (.invokevirtual 107, 3) := by decide +kernel
theorem d_Md_choose_5 : decode b_Md_choose 5 = .ok (.aload_n 0, 1) := by decide +kernel
theorem d_Md_choose_6 : decode b_Md_choose 6 = .ok (.getfield 47, 3) := by decide +kernel
theorem d_Md_choose_9 : decode b_Md_choose 9 = .ok (.iload_n 1, 1) := by decide +kernel
theorem d_Md_choose_10 : decode b_Md_choose 10 = .ok (.iaload, 1) := by decide +kernel
theorem d_Md_choose_11 : decode b_Md_choose 11 = .ok (.istore_n 2, 1) := by decide +kernel
theorem d_Md_choose_12 : decode b_Md_choose 12 = .ok (.aload_n 0, 1) := by decide +kernel
theorem d_Md_choose_13 : decode b_Md_choose 13 = .ok (.getfield 77, 3) := by decide +kernel
theorem d_Md_choose_16 : decode b_Md_choose 16 = .ok (.iload_n 1, 1) := by decide +kernel
theorem d_Md_choose_17 : decode b_Md_choose 17 = .ok (.aload_n 0, 1) := by decide +kernel
theorem d_Md_choose_18 : decode b_Md_choose 18 = .ok (.getfield 71, 3) := by decide +kernel
theorem d_Md_choose_21 : decode b_Md_choose 21 = .ok (.iload_n 1, 1) := by decide +kernel
theorem d_Md_choose_22 : decode b_Md_choose 22 = .ok (.iaload, 1) := by decide +kernel
theorem d_Md_choose_23 : decode b_Md_choose 23 = .ok (.ifCond .le 12, 3) := by decide +kernel
theorem d_Md_choose_26 : decode b_Md_choose 26 = .ok (.aload_n 0, 1) := by decide +kernel
theorem d_Md_choose_27 : decode b_Md_choose 27 = .ok (.getfield 74, 3) := by decide +kernel
theorem d_Md_choose_30 : decode b_Md_choose 30 = .ok (.iload_n 1, 1) := by decide +kernel
theorem d_Md_choose_31 : decode b_Md_choose 31 = .ok (.iaload, 1) := by decide +kernel
theorem d_Md_choose_32 : decode b_Md_choose 32 = .ok (.goto 21, 3) := by decide +kernel
theorem d_Md_choose_35 : decode b_Md_choose 35 = .ok (.iload_n 2, 1) := by decide +kernel
theorem d_Md_choose_36 : decode b_Md_choose 36 = .ok (.ifCond .le 16, 3) := by decide +kernel
theorem d_Md_choose_39 : decode b_Md_choose 39 = .ok (.aload_n 0, 1) := by decide +kernel
theorem d_Md_choose_40 : decode b_Md_choose 40 = .ok (.getfield 83, 3) := by decide +kernel
theorem d_Md_choose_43 : decode b_Md_choose 43 = .ok (.iload_n 2, 1) := by decide +kernel
theorem d_Md_choose_44 : decode b_Md_choose 44 = .ok (.baload, 1) := by decide +kernel
theorem d_Md_choose_45 : decode b_Md_choose 45 = .ok (.ifCond .ne 7, 3) := by decide +kernel
theorem d_Md_choose_48 : decode b_Md_choose 48 = .ok (.iload_n 2, 1) := by decide +kernel
theorem d_Md_choose_49 : decode b_Md_choose 49 = .ok (.goto 4, 3) := by decide +kernel
theorem d_Md_choose_52 : decode b_Md_choose 52 = .ok (.iconst 0, 1) := by decide +kernel
theorem d_Md_choose_53 : decode b_Md_choose 53 = .ok (.iastore, 1) := by decide +kernel
theorem d_Md_choose_54 : decode b_Md_choose 54 = .ok (.return_, 1) := by decide +kernel
theorem d_Md_accept_0 : decode b_Md_accept 0 = .ok (.aload_n 0, 1) := by decide +kernel
theorem d_Md_accept_1 : decode b_Md_accept 1 = .ok (.iload_n 1, 1) := by decide +kernel
theorem d_Md_accept_2 : decode b_Md_accept 2 = .ok (.iload_n 2, 1) := by decide +kernel
theorem d_Md_accept_3 : decode b_Md_accept 3 = .ok (.iconst 1, 1) := by decide +kernel
theorem d_Md_accept_4 : decode b_Md_accept 4 = .ok (.invokevirtual 148, 3) := by decide +kernel
theorem d_Md_accept_7 : decode b_Md_accept 7 = .ok (.istore 4, 2) := by decide +kernel
theorem d_Md_accept_9 : decode b_Md_accept 9 = .ok (.iload 4, 2) := by decide +kernel
theorem d_Md_accept_11 : decode b_Md_accept 11 = .ok (.iconst 1, 1) := by decide +kernel
theorem d_Md_accept_12 : decode b_Md_accept 12 = .ok (.if_icmp .ge 6, 3) := by decide +kernel
theorem d_Md_accept_15 : decode b_Md_accept 15 = .ok (.iload 4, 2) := by decide +kernel
theorem d_Md_accept_17 : decode b_Md_accept 17 = .ok (.ireturn, 1) := by decide +kernel
theorem d_Md_accept_18 : decode b_Md_accept 18 = .ok (.aload_n 0, 1) := by decide +kernel
theorem d_Md_accept_19 : decode b_Md_accept 19 = .ok (.getfield 77, 3) := by decide +kernel
theorem d_Md_accept_22 : decode b_Md_accept 22 = .ok (.iload_n 1, 1) := by decide +kernel
theorem d_Md_accept_23 : decode b_Md_accept 23 = .ok (.iaload, 1) := by decide +kernel
theorem d_Md_accept_24 : decode b_Md_accept 24 = .ok (.ifCond .ge 8, 3) := by decide +kernel
theorem d_Md_accept_27 : decode b_Md_accept 27 = .ok (.aload_n 0, 1) := by decide +kernel
theorem d_Md_accept_28 : decode b_Md_accept 28 = .ok (.iload_n 1, 1) := by decide +kernel
theorem d_Md_accept_29 : decode b_Md_accept 29 = .ok (.invokevirtual 155, 3) := by decide +kernel
theorem d_Md_accept_32 : decode b_Md_accept 32 = .ok (.bipush 9, 2) := by decide +kernel
theorem d_Md_accept_34 : decode b_Md_accept 34 = .ok (.aload_n 0, 1) := by decide +kernel
theorem d_Md_accept_35 : decode b_Md_accept 35 = .ok (.getfield 32, 3) := by decide +kernel
theorem d_Md_accept_38 : decode b_Md_accept 38 = .ok (.iload_n 1, 1) := by decide +kernel
theorem d_Md_accept_39 : decode b_Md_accept 39 = .ok (.iaload, 1) := by decide +kernel
theorem d_Md_accept_40 : decode b_Md_accept 40 = .ok (.imul, 1) := by decide +kernel
theorem d_Md_accept_41 : decode b_Md_accept 41 = .ok (.aload_n 0, 1) := by decide +kernel
theorem d_Md_accept_42 : decode b_Md_accept 42 = .ok (.getfield 59, 3) := by decide +kernel
theorem d_Md_accept_45 : decode b_Md_accept 45 = .ok (.iload_n 1, 1) := by decide +kernel
theorem d_Md_accept_46 : decode b_Md_accept 46 = .ok (.iaload, 1) := by decide +kernel
theorem d_Md_accept_47 : decode b_Md_accept 47 = .ok (.iadd, 1) := by decide +kernel
theorem d_Md_accept_48 : decode b_Md_accept 48 = .ok (.istore 5, 2) := by decide +kernel
theorem d_Md_accept_50 : decode b_Md_accept 50 = .ok (.aload_n 0, 1) := by decide +kernel
theorem d_Md_accept_51 : decode b_Md_accept 51 = .ok (.iload_n 1, 1) := by decide +kernel
theorem d_Md_accept_52 : decode b_Md_accept 52 = .ok (.iload_n 2, 1) := by decide +kernel
theorem d_Md_accept_53 : decode b_Md_accept 53 = .ok (.iload_n 3, 1) := by decide +kernel
theorem d_Md_accept_54 : decode b_Md_accept 54 = .ok (.invokevirtual 152, 3) := by decide +kernel
theorem d_Md_accept_57 : decode b_Md_accept 57 = .ok (.istore 6, 2) := by decide +kernel
theorem d_Md_accept_59 : decode b_Md_accept 59 = .ok (.iload 6, 2) := by decide +kernel
theorem d_Md_accept_61 : decode b_Md_accept 61 = .ok (.iconst 1, 1) := by decide +kernel
theorem d_Md_accept_62 : decode b_Md_accept 62 = .ok (.if_icmp .eq 6, 3) := by decide +kernel
theorem d_Md_accept_65 : decode b_Md_accept 65 = .ok (.iload 6, 2) := by decide +kernel
theorem d_Md_accept_67 : decode b_Md_accept 67 = .ok (.ireturn, 1) := by decide +kernel
theorem d_Md_accept_68 : decode b_Md_accept 68 = .ok (.aload_n 0, 1) := by decide +kernel
theorem d_Md_accept_69 : decode b_Md_accept 69 = .ok (.getfield 53, 3) := by decide +kernel
theorem d_Md_accept_72 : decode b_Md_accept 72 = .ok (.bipush 45, 2) := by decide +kernel
theorem d_Md_accept_74 : decode b_Md_accept 74 = .ok (.iload_n 2, 1) := by decide +kernel
theorem d_Md_accept_75 : decode b_Md_accept 75 = .ok (.imul, 1) := by decide +kernel
theorem d_Md_accept_76 : decode b_Md_accept 76 = .ok (.iload 5, 2) := by decide +kernel
theorem d_Md_accept_78 : decode b_Md_accept 78 = .ok (.iadd, 1) := by decide +kernel
theorem d_Md_accept_79 : decode b_Md_accept 79 = .ok (.aload_n 0, 1) := by decide +kernel
theorem d_Md_accept_80 : decode b_Md_accept 80 = .ok (.getfield 62, 3) := by decide +kernel
theorem d_Md_accept_83 : decode b_Md_accept 83 = .ok (.iload_n 1, 1) := by decide +kernel
theorem d_Md_accept_84 : decode b_Md_accept 84 = .ok (.iaload, 1) := by decide +kernel
theorem d_Md_accept_85 : decode b_Md_accept 85 = .ok (.iastore, 1) := by decide +kernel
theorem d_Md_accept_86 : decode b_Md_accept 86 = .ok (.aload_n 0, 1) := by decide +kernel
theorem d_Md_accept_87 : decode b_Md_accept 87 = .ok (.getfield 56, 3) := by decide +kernel
theorem d_Md_accept_90 : decode b_Md_accept 90 = .ok (.bipush 45, 2) := by decide +kernel
theorem d_Md_accept_92 : decode b_Md_accept 92 = .ok (.iload_n 2, 1) := by decide +kernel
theorem d_Md_accept_93 : decode b_Md_accept 93 = .ok (.imul, 1) := by decide +kernel
theorem d_Md_accept_94 : decode b_Md_accept 94 = .ok (.iload 5, 2) := by decide +kernel
theorem d_Md_accept_96 : decode b_Md_accept 96 = .ok (.iadd, 1) := by decide +kernel
theorem d_Md_accept_97 : decode b_Md_accept 97 = .ok (.aload_n 0, 1) := by decide +kernel
theorem d_Md_accept_98 : decode b_Md_accept 98 = .ok (.getfield 77, 3) := by decide +kernel
theorem d_Md_accept_101 : decode b_Md_accept 101 = .ok (.iload_n 1, 1) := by decide +kernel
theorem d_Md_accept_102 : decode b_Md_accept 102 = .ok (.iaload, 1) := by decide +kernel
theorem d_Md_accept_103 : decode b_Md_accept 103 = .ok (.iastore, 1) := by decide +kernel
theorem d_Md_accept_104 : decode b_Md_accept 104 = .ok (.iload_n 3, 1) := by decide +kernel
theorem d_Md_accept_105 : decode b_Md_accept 105 = .ok (.ifCond .ne 5, 3) := by decide +kernel
theorem d_Md_accept_108 : decode b_Md_accept 108 = .ok (.iconst 1, 1) := by decide +kernel
theorem d_Md_accept_109 : decode b_Md_accept 109 = .ok (.ireturn, 1) := by decide +kernel
theorem d_Md_accept_110 : decode b_Md_accept 110 = .ok (.aload_n 0, 1) := by decide +kernel
theorem d_Md_accept_111 : decode b_Md_accept 111 = .ok (.getfield 68, 3) := by decide +kernel
theorem d_Md_accept_114 : decode b_Md_accept 114 = .ok (.iload_n 1, 1) := by decide +kernel
theorem d_Md_accept_115 : decode b_Md_accept 115 = .ok (.dup2, 1) := by decide +kernel
theorem d_Md_accept_116 : decode b_Md_accept 116 = .ok (.iaload, 1) := by decide +kernel
theorem d_Md_accept_117 : decode b_Md_accept 117 = .ok (.iconst 1, 1) := by decide +kernel
theorem d_Md_accept_118 : decode b_Md_accept 118 = .ok (.iload_n 2, 1) := by decide +kernel
theorem d_Md_accept_119 : decode b_Md_accept 119 = .ok (.ishl, 1) := by decide +kernel
theorem d_Md_accept_120 : decode b_Md_accept 120 = .ok (.ior, 1) := by decide +kernel
theorem d_Md_accept_121 : decode b_Md_accept 121 = .ok (.iastore, 1) := by decide +kernel
theorem d_Md_accept_122 : decode b_Md_accept 122 = .ok (.aload_n 0, 1) := by decide +kernel
theorem d_Md_accept_123 : decode b_Md_accept 123 = .ok (.aload_n 0, 1) := by decide +kernel
theorem d_Md_accept_124 : decode b_Md_accept 124 = .ok (.getfield 68, 3) := by decide +kernel
theorem d_Md_accept_127 : decode b_Md_accept 127 = .ok (.iload_n 1, 1) := by decide +kernel
theorem d_Md_accept_128 : decode b_Md_accept 128 = .ok (.iaload, 1) := by decide +kernel
theorem d_Md_accept_129 : decode b_Md_accept 129 = .ok (.iload_n 1, 1) := by decide +kernel
theorem d_Md_accept_130 : decode b_Md_accept 130 = .ok (.invokevirtual 142, 3) := by decide +kernel
theorem d_Md_accept_133 : decode b_Md_accept 133 = .ok (.ifCond .ne 5, 3) := by decide +kernel
theorem d_Md_accept_136 : decode b_Md_accept 136 = .ok (.iconst 1, 1) := by decide +kernel
theorem d_Md_accept_137 : decode b_Md_accept 137 = .ok (.ireturn, 1) := by decide +kernel
theorem d_Md_accept_138 : decode b_Md_accept 138 = .ok (.aload_n 0, 1) := by decide +kernel
theorem d_Md_accept_139 : decode b_Md_accept 139 = .ok (.getfield 25, 3) := by decide +kernel
theorem d_Md_accept_142 : decode b_Md_accept 142 = .ok (.iload 5, 2) := by decide +kernel
theorem d_Md_accept_144 : decode b_Md_accept 144 = .ok (.iaload, 1) := by decide +kernel
theorem d_Md_accept_145 : decode b_Md_accept 145 = .ok (.ifCond .ge 16, 3) := by decide +kernel
theorem d_Md_accept_148 : decode b_Md_accept 148 = .ok (.aload_n 0, 1) := by decide +kernel
theorem d_Md_accept_149 : decode b_Md_accept 149 = .ok (.getfield 25, 3) := by decide +kernel
theorem d_Md_accept_152 : decode b_Md_accept 152 = .ok (.iload 5, 2) := by decide +kernel
theorem d_Md_accept_154 : decode b_Md_accept 154 = .ok (.aload_n 0, 1) := by decide +kernel
theorem d_Md_accept_155 : decode b_Md_accept 155 = .ok (.getfield 77, 3) := by decide +kernel
theorem d_Md_accept_158 : decode b_Md_accept 158 = .ok (.iload_n 1, 1) := by decide +kernel
theorem d_Md_accept_159 : decode b_Md_accept 159 = .ok (.iaload, 1) := by decide +kernel
theorem d_Md_accept_160 : decode b_Md_accept 160 = .ok (.iastore, 1) := by decide +kernel
theorem d_Md_accept_161 : decode b_Md_accept 161 = .ok (.aload_n 0, 1) := by decide +kernel
theorem d_Md_accept_162 : decode b_Md_accept 162 = .ok (.getfield 38, 3) := by decide +kernel
theorem d_Md_accept_165 : decode b_Md_accept 165 = .ok (.iload_n 1, 1) := by decide +kernel
theorem d_Md_accept_166 : decode b_Md_accept 166 = .ok (.dup2, 1) := by decide +kernel
theorem d_Md_accept_167 : decode b_Md_accept 167 = .ok (.iaload, 1) := by decide +kernel
theorem d_Md_accept_168 : decode b_Md_accept 168 = .ok (.iconst 1, 1) := by decide +kernel
theorem d_Md_accept_169 : decode b_Md_accept 169 = .ok (.aload_n 0, 1) := by decide +kernel
theorem d_Md_accept_170 : decode b_Md_accept 170 = .ok (.getfield 59, 3) := by decide +kernel
theorem d_Md_accept_173 : decode b_Md_accept 173 = .ok (.iload_n 1, 1) := by decide +kernel
theorem d_Md_accept_174 : decode b_Md_accept 174 = .ok (.iaload, 1) := by decide +kernel
theorem d_Md_accept_175 : decode b_Md_accept 175 = .ok (.ishl, 1) := by decide +kernel
theorem d_Md_accept_176 : decode b_Md_accept 176 = .ok (.ior, 1) := by decide +kernel
theorem d_Md_accept_177 : decode b_Md_accept 177 = .ok (.iastore, 1) := by decide +kernel
theorem d_Md_accept_178 : decode b_Md_accept 178 = .ok (.aload_n 0, 1) := by decide +kernel
theorem d_Md_accept_179 : decode b_Md_accept 179 = .ok (.iload_n 1, 1) := by decide +kernel
theorem d_Md_accept_180 : decode b_Md_accept 180 = .ok (.invokevirtual 158, 3) := by decide +kernel
theorem d_Md_accept_183 : decode b_Md_accept 183 = .ok (.iconst 1, 1) := by decide +kernel
theorem d_Md_accept_184 : decode b_Md_accept 184 = .ok (.ireturn, 1) := by decide +kernel
theorem d_Md_tell_0 : decode b_Md_tell 0 = .ok (.iload_n 1, 1) := by decide +kernel
theorem d_Md_tell_1 : decode b_Md_tell 1 = .ok (.invokestatic 117, 3) := by decide +kernel
theorem d_Md_tell_4 : decode b_Md_tell 4 = .ok (.ifCond .eq 15, 3) := by decide +kernel
theorem d_Md_tell_7 : decode b_Md_tell 7 = .ok (.iload_n 2, 1) := by decide +kernel
theorem d_Md_tell_8 : decode b_Md_tell 8 = .ok (.invokestatic 117, 3) := by decide +kernel
theorem d_Md_tell_11 : decode b_Md_tell 11 = .ok (.ifCond .eq 8, 3) := by decide +kernel
theorem d_Md_tell_14 : decode b_Md_tell 14 = .ok (.iload_n 1, 1) := by decide +kernel
theorem d_Md_tell_15 : decode b_Md_tell 15 = .ok (.iload_n 2, 1) := by decide +kernel
theorem d_Md_tell_16 : decode b_Md_tell 16 = .ok (.if_icmp .ne 5, 3) := by decide +kernel
theorem d_Md_tell_19 : decode b_Md_tell 19 = .ok (.iconst (-1), 1) := by decide +kernel
theorem d_Md_tell_20 : decode b_Md_tell 20 = .ok (.ireturn, 1) := by decide +kernel
theorem d_Md_tell_21 : decode b_Md_tell 21 = .ok (.aload_n 0, 1) := by decide +kernel
theorem d_Md_tell_22 : decode b_Md_tell 22 = .ok (.iload_n 1, 1) := by decide +kernel
theorem d_Md_tell_23 : decode b_Md_tell 23 = .ok (.invokevirtual 132, 3) := by decide +kernel
theorem d_Md_tell_26 : decode b_Md_tell 26 = .ok (.ifCond .eq 11, 3) := by decide +kernel
theorem d_Md_tell_29 : decode b_Md_tell 29 = .ok (.aload_n 0, 1) := by decide +kernel
theorem d_Md_tell_30 : decode b_Md_tell 30 = .ok (.iload_n 2, 1) := by decide +kernel
theorem d_Md_tell_31 : decode b_Md_tell 31 = .ok (.invokevirtual 132, 3) := by decide +kernel
theorem d_Md_tell_34 : decode b_Md_tell 34 = .ok (.ifCond .ne 6, 3) := by decide +kernel
theorem d_Md_tell_37 : decode b_Md_tell 37 = .ok (.bipush (-2), 2) := by decide +kernel
theorem d_Md_tell_39 : decode b_Md_tell 39 = .ok (.ireturn, 1) := by decide +kernel
theorem d_Md_tell_40 : decode b_Md_tell 40 = .ok (.aload_n 0, 1) := by decide +kernel
theorem d_Md_tell_41 : decode b_Md_tell 41 = .ok (.getfield 32, 3) := by decide +kernel
theorem d_Md_tell_44 : decode b_Md_tell 44 = .ok (.iload_n 2, 1) := by decide +kernel
theorem d_Md_tell_45 : decode b_Md_tell 45 = .ok (.iaload, 1) := by decide +kernel
theorem d_Md_tell_46 : decode b_Md_tell 46 = .ok (.istore_n 3, 1) := by decide +kernel
theorem d_Md_tell_47 : decode b_Md_tell 47 = .ok (.aload_n 0, 1) := by decide +kernel
theorem d_Md_tell_48 : decode b_Md_tell 48 = .ok (.getfield 35, 3) := by decide +kernel
theorem d_Md_tell_51 : decode b_Md_tell 51 = .ok (.iload_n 2, 1) := by decide +kernel
theorem d_Md_tell_52 : decode b_Md_tell 52 = .ok (.iaload, 1) := by decide +kernel
theorem d_Md_tell_53 : decode b_Md_tell 53 = .ok (.istore 4, 2) := by decide +kernel
theorem d_Md_tell_55 : decode b_Md_tell 55 = .ok (.aload_n 0, 1) := by decide +kernel
theorem d_Md_tell_56 : decode b_Md_tell 56 = .ok (.getfield 38, 3) := by decide +kernel
theorem d_Md_tell_59 : decode b_Md_tell 59 = .ok (.iload_n 2, 1) := by decide +kernel
theorem d_Md_tell_60 : decode b_Md_tell 60 = .ok (.iaload, 1) := by decide +kernel
theorem d_Md_tell_61 : decode b_Md_tell 61 = .ok (.istore 5, 2) := by decide +kernel
theorem d_Md_tell_63 : decode b_Md_tell 63 = .ok (.aload_n 0, 1) := by decide +kernel
theorem d_Md_tell_64 : decode b_Md_tell 64 = .ok (.iload_n 2, 1) := by decide +kernel
theorem d_Md_tell_65 : decode b_Md_tell 65 = .ok (.iload_n 1, 1) := by decide +kernel
theorem d_Md_tell_66 : decode b_Md_tell 66 = .ok (.invokevirtual 145, 3) := by decide +kernel
theorem d_Md_tell_69 : decode b_Md_tell 69 = .ok (.aload_n 0, 1) := by decide +kernel
theorem d_Md_tell_70 : decode b_Md_tell 70 = .ok (.getfield 32, 3) := by decide +kernel
theorem d_Md_tell_73 : decode b_Md_tell 73 = .ok (.iload_n 1, 1) := by decide +kernel
theorem d_Md_tell_74 : decode b_Md_tell 74 = .ok (.iaload, 1) := by decide +kernel
theorem d_Md_tell_75 : decode b_Md_tell 75 = .ok (.aload_n 0, 1) := by decide +kernel
theorem d_Md_tell_76 : decode b_Md_tell 76 = .ok (.getfield 32, 3) := by decide +kernel
theorem d_Md_tell_79 : decode b_Md_tell 79 = .ok (.iload_n 2, 1) := by decide +kernel
theorem d_Md_tell_80 : decode b_Md_tell 80 = .ok (.iaload, 1) := by decide +kernel
theorem d_Md_tell_81 : decode b_Md_tell 81 = .ok (.if_icmp .ne 46, 3) := by decide +kernel
theorem d_Md_tell_84 : decode b_Md_tell 84 = .ok (.aload_n 0, 1) := by decide +kernel
theorem d_Md_tell_85 : decode b_Md_tell 85 = .ok (.getfield 35, 3) := by decide +kernel
theorem d_Md_tell_88 : decode b_Md_tell 88 = .ok (.iload_n 2, 1) := by decide +kernel
theorem d_Md_tell_89 : decode b_Md_tell 89 = .ok (.iaload, 1) := by decide +kernel
theorem d_Md_tell_90 : decode b_Md_tell 90 = .ok (.iconst 1, 1) := by decide +kernel
theorem d_Md_tell_91 : decode b_Md_tell 91 = .ok (.iadd, 1) := by decide +kernel
theorem d_Md_tell_92 : decode b_Md_tell 92 = .ok (.istore 6, 2) := by decide +kernel
theorem d_Md_tell_94 : decode b_Md_tell 94 = .ok (.iload 6, 2) := by decide +kernel
theorem d_Md_tell_96 : decode b_Md_tell 96 = .ok (.bipush 8, 2) := by decide +kernel
theorem d_Md_tell_98 : decode b_Md_tell 98 = .ok (.if_icmp .gt 29, 3) := by decide +kernel
theorem d_Md_tell_101 : decode b_Md_tell 101 = .ok (.aload_n 0, 1) := by decide +kernel
theorem d_Md_tell_102 : decode b_Md_tell 102 = .ok (.getfield 38, 3) := by decide +kernel
theorem d_Md_tell_105 : decode b_Md_tell 105 = .ok (.iload_n 2, 1) := by decide +kernel
theorem d_Md_tell_106 : decode b_Md_tell 106 = .ok (.dup2, 1) := by decide +kernel
theorem d_Md_tell_107 : decode b_Md_tell 107 = .ok (.iaload, 1) := by decide +kernel
theorem d_Md_tell_108 : decode b_Md_tell 108 = .ok (.aload_n 0, 1) := by decide +kernel
theorem d_Md_tell_109 : decode b_Md_tell 109 = .ok (.getfield 38, 3) := by decide +kernel
theorem d_Md_tell_112 : decode b_Md_tell 112 = .ok (.iload_n 1, 1) := by decide +kernel
theorem d_Md_tell_113 : decode b_Md_tell 113 = .ok (.iaload, 1) := by decide +kernel
theorem d_Md_tell_114 : decode b_Md_tell 114 = .ok (.iconst 1, 1) := by decide +kernel
theorem d_Md_tell_115 : decode b_Md_tell 115 = .ok (.iload 6, 2) := by decide +kernel
theorem d_Md_tell_117 : decode b_Md_tell 117 = .ok (.ishl, 1) := by decide +kernel
theorem d_Md_tell_118 : decode b_Md_tell 118 = .ok (.iand, 1) := by decide +kernel
theorem d_Md_tell_119 : decode b_Md_tell 119 = .ok (.ior, 1) := by decide +kernel
theorem d_Md_tell_120 : decode b_Md_tell 120 = .ok (.iastore, 1) := by decide +kernel
theorem d_Md_tell_121 : decode b_Md_tell 121 = .ok (.iinc 6 1, 3) := by decide +kernel
theorem d_Md_tell_124 : decode b_Md_tell 124 = .ok (.goto (-30), 3) := by decide +kernel
theorem d_Md_tell_127 : decode b_Md_tell 127 = .ok (.aload_n 0, 1) := by decide +kernel
theorem d_Md_tell_128 : decode b_Md_tell 128 = .ok (.getfield 32, 3) := by decide +kernel
theorem d_Md_tell_131 : decode b_Md_tell 131 = .ok (.iload_n 2, 1) := by decide +kernel
theorem d_Md_tell_132 : decode b_Md_tell 132 = .ok (.iaload, 1) := by decide +kernel
theorem d_Md_tell_133 : decode b_Md_tell 133 = .ok (.iload_n 3, 1) := by decide +kernel
theorem d_Md_tell_134 : decode b_Md_tell 134 = .ok (.if_icmp .ne 25, 3) := by decide +kernel
theorem d_Md_tell_137 : decode b_Md_tell 137 = .ok (.aload_n 0, 1) := by decide +kernel
theorem d_Md_tell_138 : decode b_Md_tell 138 = .ok (.getfield 35, 3) := by decide +kernel
theorem d_Md_tell_141 : decode b_Md_tell 141 = .ok (.iload_n 2, 1) := by decide +kernel
theorem d_Md_tell_142 : decode b_Md_tell 142 = .ok (.iaload, 1) := by decide +kernel
theorem d_Md_tell_143 : decode b_Md_tell 143 = .ok (.iload 4, 2) := by decide +kernel
theorem d_Md_tell_145 : decode b_Md_tell 145 = .ok (.if_icmp .ne 14, 3) := by decide +kernel
theorem d_Md_tell_148 : decode b_Md_tell 148 = .ok (.aload_n 0, 1) := by decide +kernel
theorem d_Md_tell_149 : decode b_Md_tell 149 = .ok (.getfield 38, 3) := by decide +kernel
theorem d_Md_tell_152 : decode b_Md_tell 152 = .ok (.iload_n 2, 1) := by decide +kernel
theorem d_Md_tell_153 : decode b_Md_tell 153 = .ok (.iaload, 1) := by decide +kernel
theorem d_Md_tell_154 : decode b_Md_tell 154 = .ok (.iload 5, 2) := by decide +kernel
theorem d_Md_tell_156 : decode b_Md_tell 156 = .ok (.if_icmp .eq 7, 3) := by decide +kernel
theorem d_Md_tell_159 : decode b_Md_tell 159 = .ok (.iconst 1, 1) := by decide +kernel
theorem d_Md_tell_160 : decode b_Md_tell 160 = .ok (.goto 4, 3) := by decide +kernel
theorem d_Md_tell_163 : decode b_Md_tell 163 = .ok (.iconst 0, 1) := by decide +kernel
theorem d_Md_tell_164 : decode b_Md_tell 164 = .ok (.istore 6, 2) := by decide +kernel
theorem d_Md_tell_166 : decode b_Md_tell 166 = .ok (.aload_n 0, 1) := by decide +kernel
theorem d_Md_tell_167 : decode b_Md_tell 167 = .ok (.iload_n 2, 1) := by decide +kernel
theorem d_Md_tell_168 : decode b_Md_tell 168 = .ok (.invokevirtual 158, 3) := by decide +kernel
theorem d_Md_tell_171 : decode b_Md_tell 171 = .ok (.iload 6, 2) := by decide +kernel
theorem d_Md_tell_173 : decode b_Md_tell 173 = .ok (.ifCond .eq 7, 3) := by decide +kernel
theorem d_Md_tell_176 : decode b_Md_tell 176 = .ok (.iconst 1, 1) := by decide +kernel
theorem d_Md_tell_177 : decode b_Md_tell 177 = .ok (.goto 4, 3) := by decide +kernel
theorem d_Md_tell_180 : decode b_Md_tell 180 = .ok (.iconst 3, 1) := by decide +kernel
theorem d_Md_tell_181 : decode b_Md_tell 181 = .ok (.ireturn, 1) := by decide +kernel
def wp_Md_promise (z1 : MmdT) (x1 : Int32) (x2 : Int32) (x3 : Int32) (post : Int32 → MmdT → Prop) : Prop := (wp_Md_barred z1 x1 x2 (0 : Int32) (fun (r1 : Int32) (u2 : MmdT) => (((1 : Int32) ≤ r1 → (vp_in x1 6 ∧ (vp_in x1 6 ∧ (∀ v4 : Int32, v4 = ((((45 : Int32) * x2) + ((9 : Int32) * ((mmd_configuration u2) (x1).toNatClampNeg))) + ((mmd_slot u2) (x1).toNatClampNeg)) → (wp_Md_answer u2 x1 x2 x3 (fun (r5 : Int32) (u6 : MmdT) => ((r5 = (1 : Int32) → ((x3 = (0 : Int32) → (post r5 u6)) ∧ (¬ x3 = (0 : Int32) → (vp_in x1 6 ∧ (vp_in x1 6 ∧ (∀ w9 : MmdT, w9 = mmd_s_promisers u6 (upd (mmd_promisers u6) (x1).toNatClampNeg (((mmd_promisers u6) (x1).toNatClampNeg) ||| ((1 : Int32) <<< (x2 &&& 31)))) → (vp_in v4 270 ∧ (vp_in x1 6 ∧ ((((mmd_voteBallot w9) (v4).toNatClampNeg) ≤ ((mmd_bestBallot w9) (x1).toNatClampNeg) → (post (1 : Int32) w9)) ∧ (¬ ((mmd_voteBallot w9) (v4).toNatClampNeg) ≤ ((mmd_bestBallot w9) (x1).toNatClampNeg) → (vp_in v4 270 ∧ (vp_in x1 6 ∧ (∀ w11 : MmdT, w11 = mmd_s_bestBallot w9 (upd (mmd_bestBallot w9) (x1).toNatClampNeg ((mmd_voteBallot w9) (v4).toNatClampNeg)) → (vp_in v4 270 ∧ (vp_in x1 6 ∧ (∀ w12 : MmdT, w12 = mmd_s_bestCommand w11 (upd (mmd_bestCommand w11) (x1).toNatClampNeg ((mmd_voteCommand w11) (v4).toNatClampNeg)) → (post (1 : Int32) w12))))))))))))))))) ∧ (¬ r5 = (1 : Int32) → (post r5 u6))))))))) ∧ (¬ (1 : Int32) ≤ r1 → (post r1 u2)))))
abbrev rm_Md_promise : Room := { frames := 6, cells := 0, slots := 0, locals := 135 }
def wp_Md_choose (z1 : MmdT) (x1 : Int32) (post : MmdT → Prop) : Prop := (wp_Md_replayOf z1 x1 (fun (u2 : MmdT) => (vp_in x1 6 ∧ (∀ v3 : Int32, v3 = ((mmd_pending u2) (x1).toNatClampNeg) → (vp_in x1 6 ∧ ((((mmd_bestBallot u2) (x1).toNatClampNeg) ≤ (0 : Int32) → ((v3 ≤ (0 : Int32) → (vp_in x1 6 ∧ (∀ w6 : MmdT, w6 = mmd_s_command u2 (upd (mmd_command u2) (x1).toNatClampNeg (0 : Int32)) → (post w6)))) ∧ (¬ v3 ≤ (0 : Int32) → (vp_in v3 31 ∧ ((((mmd_done u2) (v3).toNatClampNeg) = (0 : Int32) → (vp_in x1 6 ∧ (∀ w9 : MmdT, w9 = mmd_s_command u2 (upd (mmd_command u2) (x1).toNatClampNeg v3) → (post w9)))) ∧ (¬ ((mmd_done u2) (v3).toNatClampNeg) = (0 : Int32) → (vp_in x1 6 ∧ (∀ w8 : MmdT, w8 = mmd_s_command u2 (upd (mmd_command u2) (x1).toNatClampNeg (0 : Int32)) → (post w8))))))))) ∧ (¬ ((mmd_bestBallot u2) (x1).toNatClampNeg) ≤ (0 : Int32) → (vp_in x1 6 ∧ (vp_in x1 6 ∧ (∀ w10 : MmdT, w10 = mmd_s_command u2 (upd (mmd_command u2) (x1).toNatClampNeg ((mmd_bestCommand u2) (x1).toNatClampNeg)) → (post w10)))))))))))
abbrev rm_Md_choose : Room := { frames := 3, cells := 0, slots := 0, locals := 68 }
def wp_Md_accept (z1 : MmdT) (x1 : Int32) (x2 : Int32) (x3 : Int32) (post : Int32 → MmdT → Prop) : Prop := (wp_Md_barred z1 x1 x2 (1 : Int32) (fun (r1 : Int32) (u2 : MmdT) => (((1 : Int32) ≤ r1 → (vp_in x1 6 ∧ (((0 : Int32) ≤ ((mmd_command u2) (x1).toNatClampNeg) → (vp_in x1 6 ∧ (vp_in x1 6 ∧ (∀ v5 : Int32, v5 = (((9 : Int32) * ((mmd_configuration u2) (x1).toNatClampNeg)) + ((mmd_slot u2) (x1).toNatClampNeg)) → (wp_Md_answer u2 x1 x2 x3 (fun (r6 : Int32) (u7 : MmdT) => ((r6 = (1 : Int32) → (vp_in x1 6 ∧ (vp_in (((45 : Int32) * x2) + v5) 270 ∧ (∀ w9 : MmdT, w9 = mmd_s_voteBallot u7 (upd (mmd_voteBallot u7) ((((45 : Int32) * x2) + v5)).toNatClampNeg ((mmd_ballot u7) (x1).toNatClampNeg)) → (vp_in x1 6 ∧ (vp_in (((45 : Int32) * x2) + v5) 270 ∧ (∀ w10 : MmdT, w10 = mmd_s_voteCommand w9 (upd (mmd_voteCommand w9) ((((45 : Int32) * x2) + v5)).toNatClampNeg ((mmd_command w9) (x1).toNatClampNeg)) → ((x3 = (0 : Int32) → (post (1 : Int32) w10)) ∧ (¬ x3 = (0 : Int32) → (vp_in x1 6 ∧ (vp_in x1 6 ∧ (∀ w12 : MmdT, w12 = mmd_s_voters w10 (upd (mmd_voters w10) (x1).toNatClampNeg (((mmd_voters w10) (x1).toNatClampNeg) ||| ((1 : Int32) <<< (x2 &&& 31)))) → (vp_in x1 6 ∧ (wp_Md_majority w12 ((mmd_voters w12) (x1).toNatClampNeg) x1 (fun (r13 : Int32) (u14 : MmdT) => ((r13 = (0 : Int32) → (post (1 : Int32) u14)) ∧ (¬ r13 = (0 : Int32) → (vp_in v5 45 ∧ (((0 : Int32) ≤ ((mmd_decided u14) (v5).toNatClampNeg) → (vp_in x1 6 ∧ (vp_in x1 6 ∧ (vp_in x1 6 ∧ (∀ w17 : MmdT, w17 = mmd_s_known u14 (upd (mmd_known u14) (x1).toNatClampNeg (((mmd_known u14) (x1).toNatClampNeg) ||| ((1 : Int32) <<< (((mmd_slot u14) (x1).toNatClampNeg) &&& 31)))) → (wp_Md_goOn w17 x1 (fun (u19 : MmdT) => (post (1 : Int32) u19)))))))) ∧ (¬ (0 : Int32) ≤ ((mmd_decided u14) (v5).toNatClampNeg) → (vp_in x1 6 ∧ (vp_in v5 45 ∧ (∀ w20 : MmdT, w20 = mmd_s_decided u14 (upd (mmd_decided u14) (v5).toNatClampNeg ((mmd_command u14) (x1).toNatClampNeg)) → (vp_in x1 6 ∧ (vp_in x1 6 ∧ (vp_in x1 6 ∧ (∀ w21 : MmdT, w21 = mmd_s_known w20 (upd (mmd_known w20) (x1).toNatClampNeg (((mmd_known w20) (x1).toNatClampNeg) ||| ((1 : Int32) <<< (((mmd_slot w20) (x1).toNatClampNeg) &&& 31)))) → (wp_Md_goOn w21 x1 (fun (u23 : MmdT) => (post (1 : Int32) u23)))))))))))))))))))))))))))))) ∧ (¬ r6 = (1 : Int32) → (post r6 u7))))))))) ∧ (¬ (0 : Int32) ≤ ((mmd_command u2) (x1).toNatClampNeg) → (wp_Md_choose u2 x1 (fun (u25 : MmdT) => (vp_in x1 6 ∧ (vp_in x1 6 ∧ (∀ v26 : Int32, v26 = (((9 : Int32) * ((mmd_configuration u25) (x1).toNatClampNeg)) + ((mmd_slot u25) (x1).toNatClampNeg)) → (wp_Md_answer u25 x1 x2 x3 (fun (r27 : Int32) (u28 : MmdT) => ((r27 = (1 : Int32) → (vp_in x1 6 ∧ (vp_in (((45 : Int32) * x2) + v26) 270 ∧ (∀ w30 : MmdT, w30 = mmd_s_voteBallot u28 (upd (mmd_voteBallot u28) ((((45 : Int32) * x2) + v26)).toNatClampNeg ((mmd_ballot u28) (x1).toNatClampNeg)) → (vp_in x1 6 ∧ (vp_in (((45 : Int32) * x2) + v26) 270 ∧ (∀ w31 : MmdT, w31 = mmd_s_voteCommand w30 (upd (mmd_voteCommand w30) ((((45 : Int32) * x2) + v26)).toNatClampNeg ((mmd_command w30) (x1).toNatClampNeg)) → ((x3 = (0 : Int32) → (post (1 : Int32) w31)) ∧ (¬ x3 = (0 : Int32) → (vp_in x1 6 ∧ (vp_in x1 6 ∧ (∀ w33 : MmdT, w33 = mmd_s_voters w31 (upd (mmd_voters w31) (x1).toNatClampNeg (((mmd_voters w31) (x1).toNatClampNeg) ||| ((1 : Int32) <<< (x2 &&& 31)))) → (vp_in x1 6 ∧ (wp_Md_majority w33 ((mmd_voters w33) (x1).toNatClampNeg) x1 (fun (r34 : Int32) (u35 : MmdT) => ((r34 = (0 : Int32) → (post (1 : Int32) u35)) ∧ (¬ r34 = (0 : Int32) → (vp_in v26 45 ∧ (((0 : Int32) ≤ ((mmd_decided u35) (v26).toNatClampNeg) → (vp_in x1 6 ∧ (vp_in x1 6 ∧ (vp_in x1 6 ∧ (∀ w38 : MmdT, w38 = mmd_s_known u35 (upd (mmd_known u35) (x1).toNatClampNeg (((mmd_known u35) (x1).toNatClampNeg) ||| ((1 : Int32) <<< (((mmd_slot u35) (x1).toNatClampNeg) &&& 31)))) → (wp_Md_goOn w38 x1 (fun (u40 : MmdT) => (post (1 : Int32) u40)))))))) ∧ (¬ (0 : Int32) ≤ ((mmd_decided u35) (v26).toNatClampNeg) → (vp_in x1 6 ∧ (vp_in v26 45 ∧ (∀ w41 : MmdT, w41 = mmd_s_decided u35 (upd (mmd_decided u35) (v26).toNatClampNeg ((mmd_command u35) (x1).toNatClampNeg)) → (vp_in x1 6 ∧ (vp_in x1 6 ∧ (vp_in x1 6 ∧ (∀ w42 : MmdT, w42 = mmd_s_known w41 (upd (mmd_known w41) (x1).toNatClampNeg (((mmd_known w41) (x1).toNatClampNeg) ||| ((1 : Int32) <<< (((mmd_slot w41) (x1).toNatClampNeg) &&& 31)))) → (wp_Md_goOn w42 x1 (fun (u44 : MmdT) => (post (1 : Int32) u44)))))))))))))))))))))))))))))) ∧ (¬ r27 = (1 : Int32) → (post r27 u28)))))))))))))) ∧ (¬ (1 : Int32) ≤ r1 → (post r1 u2)))))
abbrev rm_Md_accept : Room := { frames := 6, cells := 0, slots := 0, locals := 135 }
def wp_Md_tell_L94 (K94 : Int32 → Int32 → Int32 → Int32 → Int32 → Int32 → MmdT → Prop) : Nat → Int32 → Int32 → Int32 → Int32 → Int32 → Int32 → MmdT → Prop
  | 0, _, _, _, _, _, _, _ => False
  | n94 + 1, y1, y2, y3, y4, y5, y6, z1 => (((8 : Int32) < y6 → K94 y1 y2 y3 y4 y5 y6 z1) ∧ (¬ (8 : Int32) < y6 → (vp_in y2 6 ∧ (vp_in y1 6 ∧ (vp_in y2 6 ∧ (∀ w35 : MmdT, w35 = mmd_s_known z1 (upd (mmd_known z1) (y2).toNatClampNeg (((mmd_known z1) (y2).toNatClampNeg) ||| (((mmd_known z1) (y1).toNatClampNeg) &&& ((1 : Int32) <<< (y6 &&& 31))))) → (∀ v36 : Int32, v36 = (y6 + (1 : Int32)) → wp_Md_tell_L94 K94 n94 y1 y2 y3 y4 y5 v36 w35)))))))
def wp_Md_tell (z1 : MmdT) (x1 : Int32) (x2 : Int32) (post : Int32 → MmdT → Prop) : Prop := (wp_Md_node x1 (fun (r1 : Int32) => ((r1 = (0 : Int32) → (post (-1 : Int32) z1)) ∧ (¬ r1 = (0 : Int32) → (wp_Md_node x2 (fun (r3 : Int32) => ((r3 = (0 : Int32) → (post (-1 : Int32) z1)) ∧ (¬ r3 = (0 : Int32) → ((x1 = x2 → (post (-1 : Int32) z1)) ∧ (¬ x1 = x2 → (wp_Md_isUp z1 x1 (fun (r6 : Int32) (u7 : MmdT) => ((r6 = (0 : Int32) → (post (-2 : Int32) u7)) ∧ (¬ r6 = (0 : Int32) → (wp_Md_isUp u7 x2 (fun (r9 : Int32) (u10 : MmdT) => ((r9 = (0 : Int32) → (post (-2 : Int32) u10)) ∧ (¬ r9 = (0 : Int32) → (vp_in x2 6 ∧ (∀ v12 : Int32, v12 = ((mmd_configuration u10) (x2).toNatClampNeg) → (vp_in x2 6 ∧ (∀ v13 : Int32, v13 = ((mmd_executed u10) (x2).toNatClampNeg) → (vp_in x2 6 ∧ (∀ v14 : Int32, v14 = ((mmd_known u10) (x2).toNatClampNeg) → (wp_Md_install u10 x2 x1 (fun (u16 : MmdT) => (vp_in x1 6 ∧ (vp_in x2 6 ∧ ((((mmd_configuration u16) (x1).toNatClampNeg) = ((mmd_configuration u16) (x2).toNatClampNeg) → (vp_in x2 6 ∧ (∀ v33 : Int32, v33 = (((mmd_executed u16) (x2).toNatClampNeg) + (1 : Int32)) → (∃ n94 : Nat, wp_Md_tell_L94 (fun (y1 : Int32) (y2 : Int32) (y3 : Int32) (y4 : Int32) (y5 : Int32) (y6 : Int32) (z1 : MmdT) => (vp_in y2 6 ∧ ((((mmd_configuration z1) (y2).toNatClampNeg) = y3 → (vp_in y2 6 ∧ ((((mmd_executed z1) (y2).toNatClampNeg) = y4 → (vp_in y2 6 ∧ ((((mmd_known z1) (y2).toNatClampNeg) = y5 → (wp_Md_goOn z1 y2 (fun (u47 : MmdT) => (post (3 : Int32) u47)))) ∧ (¬ ((mmd_known z1) (y2).toNatClampNeg) = y5 → (wp_Md_goOn z1 y2 (fun (u50 : MmdT) => (post (1 : Int32) u50))))))) ∧ (¬ ((mmd_executed z1) (y2).toNatClampNeg) = y4 → (wp_Md_goOn z1 y2 (fun (u43 : MmdT) => (post (1 : Int32) u43))))))) ∧ (¬ ((mmd_configuration z1) (y2).toNatClampNeg) = y3 → (wp_Md_goOn z1 y2 (fun (u39 : MmdT) => (post (1 : Int32) u39))))))) n94 x1 x2 v12 v13 v14 v33 u16)))) ∧ (¬ ((mmd_configuration u16) (x1).toNatClampNeg) = ((mmd_configuration u16) (x2).toNatClampNeg) → (vp_in x2 6 ∧ ((((mmd_configuration u16) (x2).toNatClampNeg) = v12 → (vp_in x2 6 ∧ ((((mmd_executed u16) (x2).toNatClampNeg) = v13 → (vp_in x2 6 ∧ ((((mmd_known u16) (x2).toNatClampNeg) = v14 → (wp_Md_goOn u16 x2 (fun (u28 : MmdT) => (post (3 : Int32) u28)))) ∧ (¬ ((mmd_known u16) (x2).toNatClampNeg) = v14 → (wp_Md_goOn u16 x2 (fun (u31 : MmdT) => (post (1 : Int32) u31))))))) ∧ (¬ ((mmd_executed u16) (x2).toNatClampNeg) = v13 → (wp_Md_goOn u16 x2 (fun (u24 : MmdT) => (post (1 : Int32) u24))))))) ∧ (¬ ((mmd_configuration u16) (x2).toNatClampNeg) = v12 → (wp_Md_goOn u16 x2 (fun (u20 : MmdT) => (post (1 : Int32) u20))))))))))))))))))))))))))))))))))))
abbrev rm_Md_tell : Room := { frames := 4, cells := 0, slots := 0, locals := 90 }
set_option maxHeartbeats 4000000 in
set_option maxRecDepth 100000 in
theorem c_Md_promise (l : Launch) (D : va_G) (cI cN cZ : ClassId) (a1 : Nat → Nat) (z1 : MmdT) (x1 : Int32) (x2 : Int32) (x3 : Int32) (post : Int32 → MmdT → Prop) (hw : wp_Md_promise z1 x1 x2 x3 post) : km_I l y_Md_promise (.code y_Md_promise b_Md_promise 7 (some .int) :: kmW) rm_Md_promise D kmC (kmT cI cN cZ) kmF kmM [.ref (a1 0), .int x1, .int x2, .int x3] (mmdW cI cN cZ a1 z1) (fun (r : Int32) (u : MmdT) => post r u) (fun (u : MmdT) => (mmdW cI cN cZ a1 u)) 0 0 := by
  refine km_startI (cc := b_Md_promise) (maxL := 7) (ret := (some .int)) (by decide) rfl (Nat.le_of_ble_eq_true rfl) ?_
  intro p e s m below meth c A ls hE hA hK hP hD hS hl
  obtain ⟨hx, hb, hr, hml, hown, hts0, hlk, hnm⟩ := id hE
  have hts : ∀ w ∈ kmW, w.before ([.ref (a1 0), .int x1, .int x2, .int x3] : List Value).toArray s = true := fun w h => hts0 w (List.mem_cons_of_mem _ h)
  have hP : va_P D kmC (mmdW cI cN cZ a1 z1) s.heap := hP
  have hl : lv_has ls 7 [(0, .ref (a1 0)), (1, .int x1), (2, .int x2), (3, .int x3)] := hl
  unfold wp_Md_promise at hw
  refine lv_aload_n hx hb d_Md_promise_0 rfl (lv_at hl 0 rfl) ?_
  refine lv_iload_n hx hb d_Md_promise_1 rfl (lv_at hl 1 rfl) ?_
  refine lv_iload_n hx hb d_Md_promise_2 rfl (lv_at hl 2 rfl) ?_
  refine lv_iconst (v := (0 : Int32)) hx hb d_Md_promise_3 (by decide) ?_
  refine km_ci (wr := []) (km_rV (n := 3) hE kmG (c_Md_barred l D cI cN cZ a1 z1 x1 x2 (0 : Int32) _ hw) mw_576 mw_573 mw_575 mp_35 mw_8 (by decide) ⟨rfl, rfl, ⟨by decide, by decide⟩, by decide, by decide⟩ hK (km_cut hP [0, 1, 2, 3, 4, 5, 6, 7, 8, 9, 10, 11, 12, 13, 14, 15, 16, 17, 18, 19, 20, 21, 22, 23, 24, 25] rfl) (hD.sub [0, 1, 2, 3, 4, 5, 6, 7, 8, 9, 10, 11, 12, 13, 14, 15, 16, 17, 18, 19, 20, 21, 22, 23, 24, 25] (by decide) rfl) (ci := 6) rfl hP (q0 := 0) rfl rfl hl.1 rfl (Nat.le_of_ble_eq_true rfl) d_Md_promise_4) hP hD hS hA [0, 1, 2, 3, 4, 5, 6, 7, 8, 9, 10, 11, 12, 13, 14, 15, 16, 17, 18, 19, 20, 21, 22, 23, 24, 25] [] rfl rfl (by decide) (by decide) (fun r1 u2 H locs hw hP hD hS => ?_)
  have hP : va_P D kmC (mmdW cI cN cZ a1 u2) H := hP
  have hD : va_D A (mmdW cI cN cZ a1 u2) := hD
  refine lv_istore (lv' := [(4, .int r1), (0, .ref (a1 0)), (1, .int x1), (2, .int x2), (3, .int x3)]) hx hb d_Md_promise_7 hl (by decide) rfl (fun ls hl => ?_)
  refine lv_iload hx hb d_Md_promise_9 (lv_at hl 0 rfl) ?_
  refine lv_iconst (v := (1 : Int32)) hx hb d_Md_promise_11 (by decide) ?_
  refine lv_icmp_ge (tgt := 18) hx hb d_Md_promise_12 (by first | rfl | decide) (fun h3 => ?_) (fun h3 => ?_)
  · have hw := hw.1 h3
    refine lv_bipush (v := (45 : Int32)) hx hb d_Md_promise_18 (by decide) ?_
    refine lv_iload_n hx hb d_Md_promise_20 rfl (lv_at hl 3 rfl) ?_
    refine lv_imul hx hb d_Md_promise_21 ?_
    refine lv_bipush (v := (9 : Int32)) hx hb d_Md_promise_22 (by decide) ?_
    refine lv_aload_n hx hb d_Md_promise_24 rfl (lv_at hl 1 rfl) ?_
    refine va_get (D := D) (ci := 6) (v := .ref (a1 7)) (C := R_Md) (T := F_Md) (N := 31) hx hb hts iw_Md hown hK.1 hP 0 rfl rfl 9 (by decide) (hts _ mw_436) (fun _ h => h) rfl d_Md_promise_25 ?_
    refine lv_iload_n hx hb d_Md_promise_28 rfl (lv_at hl 2 rfl) ?_
    obtain ⟨hin, hw⟩ := hw
    refine va_iald (f := (mmd_configuration u2)) hx hb hK.1 hP 7 0 rfl rfl hin d_Md_promise_29 ?_
    refine lv_imul hx hb d_Md_promise_30 ?_
    refine lv_iadd hx hb d_Md_promise_31 ?_
    refine lv_aload_n hx hb d_Md_promise_32 rfl (lv_at hl 1 rfl) ?_
    refine va_get (D := D) (ci := 6) (v := .ref (a1 16)) (C := R_Md) (T := F_Md) (N := 31) hx hb hts iw_Md hown hK.1 hP 0 rfl rfl 18 (by decide) (hts _ mw_445) (fun _ h => h) rfl d_Md_promise_33 ?_
    refine lv_iload_n hx hb d_Md_promise_36 rfl (lv_at hl 2 rfl) ?_
    obtain ⟨hin, hw⟩ := hw
    refine va_iald (f := (mmd_slot u2)) hx hb hK.1 hP 16 0 rfl rfl hin d_Md_promise_37 ?_
    refine lv_iadd hx hb d_Md_promise_38 ?_
    refine lv_topi (fun v4 ev4 => ?_)
    have hw := hw v4 ev4
    refine lv_istore (lv' := [(5, .int v4), (4, .int r1), (0, .ref (a1 0)), (1, .int x1), (2, .int x2), (3, .int x3)]) hx hb d_Md_promise_39 hl (by decide) rfl (fun ls hl => ?_)
    refine lv_aload_n hx hb d_Md_promise_41 rfl (lv_at hl 2 rfl) ?_
    refine lv_iload_n hx hb d_Md_promise_42 rfl (lv_at hl 3 rfl) ?_
    refine lv_iload_n hx hb d_Md_promise_43 rfl (lv_at hl 4 rfl) ?_
    refine lv_iload_n hx hb d_Md_promise_44 rfl (lv_at hl 5 rfl) ?_
    refine km_ci (wr := []) (km_rV (n := 3) hE kmG (c_Md_answer l D cI cN cZ a1 u2 x1 x2 x3 _ hw) mw_588 mw_585 mw_587 mp_38 mw_8 (by decide) ⟨rfl, rfl, ⟨by decide, by decide⟩, by decide, by decide⟩ hK (km_cut hP [0, 1, 2, 3, 4, 5, 6, 7, 8, 9, 10, 11, 12, 13, 14, 15, 16, 17, 18, 19, 20, 21, 22, 23, 24, 25] rfl) (hD.sub [0, 1, 2, 3, 4, 5, 6, 7, 8, 9, 10, 11, 12, 13, 14, 15, 16, 17, 18, 19, 20, 21, 22, 23, 24, 25] (by decide) rfl) (ci := 6) rfl hP (q0 := 0) rfl rfl hl.1 rfl (Nat.le_of_ble_eq_true rfl) d_Md_promise_45) hP hD hS hA [0, 1, 2, 3, 4, 5, 6, 7, 8, 9, 10, 11, 12, 13, 14, 15, 16, 17, 18, 19, 20, 21, 22, 23, 24, 25] [] rfl rfl (by decide) (by decide) (fun r5 u6 H locs hw hP hD hS => ?_)
    have hP : va_P D kmC (mmdW cI cN cZ a1 u6) H := hP
    have hD : va_D A (mmdW cI cN cZ a1 u6) := hD
    refine lv_istore (lv' := [(6, .int r5), (5, .int v4), (4, .int r1), (0, .ref (a1 0)), (1, .int x1), (2, .int x2), (3, .int x3)]) hx hb d_Md_promise_48 hl (by decide) rfl (fun ls hl => ?_)
    refine lv_iload hx hb d_Md_promise_50 (lv_at hl 0 rfl) ?_
    refine lv_iconst (v := (1 : Int32)) hx hb d_Md_promise_52 (by decide) ?_
    refine lv_icmp_ne (tgt := 60) hx hb d_Md_promise_53 (by first | rfl | decide) (fun h7 => ?_) (fun h7 => ?_)
    · have hw := hw.2 h7
      refine lv_iload hx hb d_Md_promise_60 (lv_at hl 0 rfl) ?_
      exact W.iret (v := r5) hx hb hr (fun t ht hW => ⟨⟨r5, u6, rfl, hw, by rw [ht]; exact hP, hD⟩, hS.F ht⟩) hS.2.2 d_Md_promise_62
    · have hw := hw.1 h7
      refine lv_iload_n hx hb d_Md_promise_56 rfl (lv_at hl 6 rfl) ?_
      refine lv_if_ne (tgt := 63) hx hb d_Md_promise_57 (by first | rfl | decide) (fun h8 => ?_) (fun h8 => ?_)
      · have hw := hw.2 h8
        refine lv_aload_n hx hb d_Md_promise_63 rfl (lv_at hl 3 rfl) ?_
        refine va_get (D := D) (ci := 6) (v := .ref (a1 18)) (C := R_Md) (T := F_Md) (N := 31) hx hb hts iw_Md hown hK.1 hP 0 rfl rfl 20 (by decide) (hts _ mw_447) (fun _ h => h) rfl d_Md_promise_64 ?_
        refine lv_iload_n hx hb d_Md_promise_67 rfl (lv_at hl 4 rfl) ?_
        refine lv_dup2_11 hx hb d_Md_promise_68 rfl rfl ?_
        obtain ⟨hin, hw⟩ := hw
        refine va_iald (f := (mmd_promisers u6)) hx hb hK.1 hP 18 0 rfl rfl hin d_Md_promise_69 ?_
        refine lv_iconst (v := (1 : Int32)) hx hb d_Md_promise_70 (by decide) ?_
        refine lv_iload_n hx hb d_Md_promise_71 rfl (lv_at hl 5 rfl) ?_
        refine lv_ishl hx hb d_Md_promise_72 ?_
        refine lv_ior hx hb d_Md_promise_73 ?_
        obtain ⟨hin, hw⟩ := hw
        refine va_iast (f := (mmd_promisers u6)) hx hb hK.1 hP hD hS 18 0 rfl rfl hin d_Md_promise_74 (fun H locs hP hD hS => ?_)
        have hP := (congrArg (fun w => va_P D kmC w H) (sw_mmd_s_promisers cI cN cZ a1 u6 (upd (mmd_promisers u6) (x1).toNatClampNeg (((mmd_promisers u6) (x1).toNatClampNeg) ||| ((1 : Int32) <<< (x2 &&& 31)))))).mp hP
        have hD := (congrArg (va_D A) (sw_mmd_s_promisers cI cN cZ a1 u6 (upd (mmd_promisers u6) (x1).toNatClampNeg (((mmd_promisers u6) (x1).toNatClampNeg) ||| ((1 : Int32) <<< (x2 &&& 31)))))).mp hD
        obtain ⟨w9, ew9⟩ : ∃ z : MmdT, z = mmd_s_promisers u6 (upd (mmd_promisers u6) (x1).toNatClampNeg (((mmd_promisers u6) (x1).toNatClampNeg) ||| ((1 : Int32) <<< (x2 &&& 31)))) := ⟨_, rfl⟩
        rw [← ew9] at hP hD
        have hw := hw w9 ew9
        refine lv_aload_n hx hb d_Md_promise_75 rfl (lv_at hl 3 rfl) ?_
        refine va_get (D := D) (ci := 6) (v := .ref (a1 14)) (C := R_Md) (T := F_Md) (N := 31) hx hb hts iw_Md hown hK.1 hP 0 rfl rfl 16 (by decide) (hts _ mw_443) (fun _ h => h) rfl d_Md_promise_76 ?_
        refine lv_iload hx hb d_Md_promise_79 (lv_at hl 1 rfl) ?_
        obtain ⟨hin, hw⟩ := hw
        refine va_iald (f := (mmd_voteBallot w9)) hx hb hK.1 hP 14 0 rfl rfl hin d_Md_promise_81 ?_
        refine lv_aload_n hx hb d_Md_promise_82 rfl (lv_at hl 3 rfl) ?_
        refine va_get (D := D) (ci := 6) (v := .ref (a1 20)) (C := R_Md) (T := F_Md) (N := 31) hx hb hts iw_Md hown hK.1 hP 0 rfl rfl 22 (by decide) (hts _ mw_449) (fun _ h => h) rfl d_Md_promise_83 ?_
        refine lv_iload_n hx hb d_Md_promise_86 rfl (lv_at hl 4 rfl) ?_
        obtain ⟨hin, hw⟩ := hw
        refine va_iald (f := (mmd_bestBallot w9)) hx hb hK.1 hP 20 0 rfl rfl hin d_Md_promise_87 ?_
        refine lv_icmp_le (tgt := 117) hx hb d_Md_promise_88 (by first | rfl | decide) (fun h10 => ?_) (fun h10 => ?_)
        · have hw := hw.1 h10
          refine lv_iconst (v := (1 : Int32)) hx hb d_Md_promise_117 (by decide) ?_
          exact W.iret (v := (1 : Int32)) hx hb hr (fun t ht hW => ⟨⟨(1 : Int32), w9, rfl, hw, by rw [ht]; exact hP, hD⟩, hS.F ht⟩) hS.2.2 d_Md_promise_118
        · have hw := hw.2 h10
          refine lv_aload_n hx hb d_Md_promise_91 rfl (lv_at hl 3 rfl) ?_
          refine va_get (D := D) (ci := 6) (v := .ref (a1 20)) (C := R_Md) (T := F_Md) (N := 31) hx hb hts iw_Md hown hK.1 hP 0 rfl rfl 22 (by decide) (hts _ mw_449) (fun _ h => h) rfl d_Md_promise_92 ?_
          refine lv_iload_n hx hb d_Md_promise_95 rfl (lv_at hl 4 rfl) ?_
          refine lv_aload_n hx hb d_Md_promise_96 rfl (lv_at hl 3 rfl) ?_
          refine va_get (D := D) (ci := 6) (v := .ref (a1 14)) (C := R_Md) (T := F_Md) (N := 31) hx hb hts iw_Md hown hK.1 hP 0 rfl rfl 16 (by decide) (hts _ mw_443) (fun _ h => h) rfl d_Md_promise_97 ?_
          refine lv_iload hx hb d_Md_promise_100 (lv_at hl 1 rfl) ?_
          obtain ⟨hin, hw⟩ := hw
          refine va_iald (f := (mmd_voteBallot w9)) hx hb hK.1 hP 14 0 rfl rfl hin d_Md_promise_102 ?_
          obtain ⟨hin, hw⟩ := hw
          refine va_iast (f := (mmd_bestBallot w9)) hx hb hK.1 hP hD hS 20 0 rfl rfl hin d_Md_promise_103 (fun H locs hP hD hS => ?_)
          have hP := (congrArg (fun w => va_P D kmC w H) (sw_mmd_s_bestBallot cI cN cZ a1 w9 (upd (mmd_bestBallot w9) (x1).toNatClampNeg ((mmd_voteBallot w9) (v4).toNatClampNeg)))).mp hP
          have hD := (congrArg (va_D A) (sw_mmd_s_bestBallot cI cN cZ a1 w9 (upd (mmd_bestBallot w9) (x1).toNatClampNeg ((mmd_voteBallot w9) (v4).toNatClampNeg)))).mp hD
          obtain ⟨w11, ew11⟩ : ∃ z : MmdT, z = mmd_s_bestBallot w9 (upd (mmd_bestBallot w9) (x1).toNatClampNeg ((mmd_voteBallot w9) (v4).toNatClampNeg)) := ⟨_, rfl⟩
          rw [← ew11] at hP hD
          have hw := hw w11 ew11
          refine lv_aload_n hx hb d_Md_promise_104 rfl (lv_at hl 3 rfl) ?_
          refine va_get (D := D) (ci := 6) (v := .ref (a1 21)) (C := R_Md) (T := F_Md) (N := 31) hx hb hts iw_Md hown hK.1 hP 0 rfl rfl 23 (by decide) (hts _ mw_450) (fun _ h => h) rfl d_Md_promise_105 ?_
          refine lv_iload_n hx hb d_Md_promise_108 rfl (lv_at hl 4 rfl) ?_
          refine lv_aload_n hx hb d_Md_promise_109 rfl (lv_at hl 3 rfl) ?_
          refine va_get (D := D) (ci := 6) (v := .ref (a1 15)) (C := R_Md) (T := F_Md) (N := 31) hx hb hts iw_Md hown hK.1 hP 0 rfl rfl 17 (by decide) (hts _ mw_444) (fun _ h => h) rfl d_Md_promise_110 ?_
          refine lv_iload hx hb d_Md_promise_113 (lv_at hl 1 rfl) ?_
          obtain ⟨hin, hw⟩ := hw
          refine va_iald (f := (mmd_voteCommand w11)) hx hb hK.1 hP 15 0 rfl rfl hin d_Md_promise_115 ?_
          obtain ⟨hin, hw⟩ := hw
          refine va_iast (f := (mmd_bestCommand w11)) hx hb hK.1 hP hD hS 21 0 rfl rfl hin d_Md_promise_116 (fun H locs hP hD hS => ?_)
          have hP := (congrArg (fun w => va_P D kmC w H) (sw_mmd_s_bestCommand cI cN cZ a1 w11 (upd (mmd_bestCommand w11) (x1).toNatClampNeg ((mmd_voteCommand w11) (v4).toNatClampNeg)))).mp hP
          have hD := (congrArg (va_D A) (sw_mmd_s_bestCommand cI cN cZ a1 w11 (upd (mmd_bestCommand w11) (x1).toNatClampNeg ((mmd_voteCommand w11) (v4).toNatClampNeg)))).mp hD
          obtain ⟨w12, ew12⟩ : ∃ z : MmdT, z = mmd_s_bestCommand w11 (upd (mmd_bestCommand w11) (x1).toNatClampNeg ((mmd_voteCommand w11) (v4).toNatClampNeg)) := ⟨_, rfl⟩
          rw [← ew12] at hP hD
          have hw := hw w12 ew12
          refine lv_iconst (v := (1 : Int32)) hx hb d_Md_promise_117 (by decide) ?_
          exact W.iret (v := (1 : Int32)) hx hb hr (fun t ht hW => ⟨⟨(1 : Int32), w12, rfl, hw, by rw [ht]; exact hP, hD⟩, hS.F ht⟩) hS.2.2 d_Md_promise_118
      · have hw := hw.1 h8
        refine lv_iload hx hb d_Md_promise_60 (lv_at hl 0 rfl) ?_
        exact W.iret (v := r5) hx hb hr (fun t ht hW => ⟨⟨r5, u6, rfl, hw, by rw [ht]; exact hP, hD⟩, hS.F ht⟩) hS.2.2 d_Md_promise_62
  · have hw := hw.2 h3
    refine lv_iload hx hb d_Md_promise_15 (lv_at hl 0 rfl) ?_
    exact W.iret (v := r1) hx hb hr (fun t ht hW => ⟨⟨r1, u2, rfl, hw, by rw [ht]; exact hP, hD⟩, hS.F ht⟩) hS.2.2 d_Md_promise_17
set_option maxHeartbeats 4000000 in
set_option maxRecDepth 100000 in
theorem c_Md_choose (l : Launch) (D : va_G) (cI cN cZ : ClassId) (a1 : Nat → Nat) (z1 : MmdT) (x1 : Int32) (post : MmdT → Prop) (hw : wp_Md_choose z1 x1 post) : km_V l y_Md_choose (.code y_Md_choose b_Md_choose 3 none :: kmW) rm_Md_choose D kmC (kmT cI cN cZ) kmF kmM [.ref (a1 0), .int x1] (mmdW cI cN cZ a1 z1) (fun (u : MmdT) => post u) (fun (u : MmdT) => (mmdW cI cN cZ a1 u)) 0 0 := by
  refine km_startV (cc := b_Md_choose) (maxL := 3) (ret := none) (by decide) rfl (Nat.le_of_ble_eq_true rfl) ?_
  intro p e s m below meth c A ls hE hA hK hP hD hS hl
  obtain ⟨hx, hb, hr, hml, hown, hts0, hlk, hnm⟩ := id hE
  have hts : ∀ w ∈ kmW, w.before ([.ref (a1 0), .int x1] : List Value).toArray s = true := fun w h => hts0 w (List.mem_cons_of_mem _ h)
  have hP : va_P D kmC (mmdW cI cN cZ a1 z1) s.heap := hP
  have hl : lv_has ls 3 [(0, .ref (a1 0)), (1, .int x1)] := hl
  unfold wp_Md_choose at hw
  refine lv_aload_n hx hb d_Md_choose_0 rfl (lv_at hl 0 rfl) ?_
  refine lv_iload_n hx hb d_Md_choose_1 rfl (lv_at hl 1 rfl) ?_
  refine km_cv (wr := []) (km_rV (n := 1) hE kmG (c_Md_replayOf l D cI cN cZ a1 z1 x1 _ hw) mw_543 mw_540 mw_542 mp_30 mw_8 (by decide) ⟨rfl, rfl, ⟨by decide, by decide⟩, by decide, by decide⟩ hK (km_cut hP [0, 1, 2, 3, 4, 5, 6, 7, 8, 9, 10, 11, 12, 13, 14, 15, 16, 17, 18, 19, 20, 21, 22, 23, 24, 25] rfl) (hD.sub [0, 1, 2, 3, 4, 5, 6, 7, 8, 9, 10, 11, 12, 13, 14, 15, 16, 17, 18, 19, 20, 21, 22, 23, 24, 25] (by decide) rfl) (ci := 6) rfl hP (q0 := 0) rfl rfl hl.1 rfl (Nat.le_of_ble_eq_true rfl) d_Md_choose_2) hP hD hS hA [0, 1, 2, 3, 4, 5, 6, 7, 8, 9, 10, 11, 12, 13, 14, 15, 16, 17, 18, 19, 20, 21, 22, 23, 24, 25] [] rfl rfl (by decide) (by decide) (fun u2 H locs hw hP hD hS => ?_)
  have hP : va_P D kmC (mmdW cI cN cZ a1 u2) H := hP
  have hD : va_D A (mmdW cI cN cZ a1 u2) := hD
  refine lv_aload_n hx hb d_Md_choose_5 rfl (lv_at hl 0 rfl) ?_
  refine va_get (D := D) (ci := 6) (v := .ref (a1 12)) (C := R_Md) (T := F_Md) (N := 31) hx hb hts iw_Md hown hK.1 hP 0 rfl rfl 14 (by decide) (hts _ mw_441) (fun _ h => h) rfl d_Md_choose_6 ?_
  refine lv_iload_n hx hb d_Md_choose_9 rfl (lv_at hl 1 rfl) ?_
  obtain ⟨hin, hw⟩ := hw
  refine va_iald (f := (mmd_pending u2)) hx hb hK.1 hP 12 0 rfl rfl hin d_Md_choose_10 ?_
  refine lv_topi (fun v3 ev3 => ?_)
  have hw := hw v3 ev3
  refine lv_istore_n (lv' := [(2, .int v3), (0, .ref (a1 0)), (1, .int x1)]) hx hb d_Md_choose_11 rfl hl (by decide) rfl (fun ls hl => ?_)
  refine lv_aload_n hx hb d_Md_choose_12 rfl (lv_at hl 1 rfl) ?_
  refine va_get (D := D) (ci := 6) (v := .ref (a1 22)) (C := R_Md) (T := F_Md) (N := 31) hx hb hts iw_Md hown hK.1 hP 0 rfl rfl 24 (by decide) (hts _ mw_451) (fun _ h => h) rfl d_Md_choose_13 ?_
  refine lv_iload_n hx hb d_Md_choose_16 rfl (lv_at hl 2 rfl) ?_
  refine lv_aload_n hx hb d_Md_choose_17 rfl (lv_at hl 1 rfl) ?_
  refine va_get (D := D) (ci := 6) (v := .ref (a1 20)) (C := R_Md) (T := F_Md) (N := 31) hx hb hts iw_Md hown hK.1 hP 0 rfl rfl 22 (by decide) (hts _ mw_449) (fun _ h => h) rfl d_Md_choose_18 ?_
  refine lv_iload_n hx hb d_Md_choose_21 rfl (lv_at hl 2 rfl) ?_
  obtain ⟨hin, hw⟩ := hw
  refine va_iald (f := (mmd_bestBallot u2)) hx hb hK.1 hP 20 0 rfl rfl hin d_Md_choose_22 ?_
  refine lv_if_le (tgt := 35) hx hb d_Md_choose_23 (by first | rfl | decide) (fun h4 => ?_) (fun h4 => ?_)
  · have hw := hw.1 h4
    refine lv_iload_n hx hb d_Md_choose_35 rfl (lv_at hl 0 rfl) ?_
    refine lv_if_le (tgt := 52) hx hb d_Md_choose_36 (by first | rfl | decide) (fun h5 => ?_) (fun h5 => ?_)
    · have hw := hw.1 h5
      refine lv_iconst (v := (0 : Int32)) hx hb d_Md_choose_52 (by decide) ?_
      obtain ⟨hin, hw⟩ := hw
      refine va_iast (f := (mmd_command u2)) hx hb hK.1 hP hD hS 22 0 rfl rfl hin d_Md_choose_53 (fun H locs hP hD hS => ?_)
      have hP := (congrArg (fun w => va_P D kmC w H) (sw_mmd_s_command cI cN cZ a1 u2 (upd (mmd_command u2) (x1).toNatClampNeg (0 : Int32)))).mp hP
      have hD := (congrArg (va_D A) (sw_mmd_s_command cI cN cZ a1 u2 (upd (mmd_command u2) (x1).toNatClampNeg (0 : Int32)))).mp hD
      obtain ⟨w6, ew6⟩ : ∃ z : MmdT, z = mmd_s_command u2 (upd (mmd_command u2) (x1).toNatClampNeg (0 : Int32)) := ⟨_, rfl⟩
      rw [← ew6] at hP hD
      have hw := hw w6 ew6
      exact W.vret hx hb hr (fun t ht hW => ⟨⟨w6, rfl, hw, by rw [ht]; exact hP, hD⟩, hS.F ht⟩) hS.2.2 d_Md_choose_54
    · have hw := hw.2 h5
      refine lv_aload_n hx hb d_Md_choose_39 rfl (lv_at hl 1 rfl) ?_
      refine va_get (D := D) (ci := 6) (v := .ref (a1 24)) (C := R_Md) (T := F_Md) (N := 31) hx hb hts iw_Md hown hK.1 hP 0 rfl rfl 26 (by decide) (hts _ mw_453) (fun _ h => h) rfl d_Md_choose_40 ?_
      refine lv_iload_n hx hb d_Md_choose_43 rfl (lv_at hl 0 rfl) ?_
      obtain ⟨hin, hw⟩ := hw
      refine va_zald (f := (mmd_done u2)) hx hb hK.1 hP 24 2 rfl rfl hin d_Md_choose_44 ?_
      refine lv_if_ne (tgt := 52) hx hb d_Md_choose_45 (by first | rfl | decide) (fun h7 => ?_) (fun h7 => ?_)
      · have hw := hw.2 h7
        refine lv_iconst (v := (0 : Int32)) hx hb d_Md_choose_52 (by decide) ?_
        obtain ⟨hin, hw⟩ := hw
        refine va_iast (f := (mmd_command u2)) hx hb hK.1 hP hD hS 22 0 rfl rfl hin d_Md_choose_53 (fun H locs hP hD hS => ?_)
        have hP := (congrArg (fun w => va_P D kmC w H) (sw_mmd_s_command cI cN cZ a1 u2 (upd (mmd_command u2) (x1).toNatClampNeg (0 : Int32)))).mp hP
        have hD := (congrArg (va_D A) (sw_mmd_s_command cI cN cZ a1 u2 (upd (mmd_command u2) (x1).toNatClampNeg (0 : Int32)))).mp hD
        obtain ⟨w8, ew8⟩ : ∃ z : MmdT, z = mmd_s_command u2 (upd (mmd_command u2) (x1).toNatClampNeg (0 : Int32)) := ⟨_, rfl⟩
        rw [← ew8] at hP hD
        have hw := hw w8 ew8
        exact W.vret hx hb hr (fun t ht hW => ⟨⟨w8, rfl, hw, by rw [ht]; exact hP, hD⟩, hS.F ht⟩) hS.2.2 d_Md_choose_54
      · have hw := hw.1 h7
        refine lv_iload_n hx hb d_Md_choose_48 rfl (lv_at hl 0 rfl) ?_
        refine lv_goto (tgt := 53) hx hb d_Md_choose_49 (by first | rfl | decide) ?_
        obtain ⟨hin, hw⟩ := hw
        refine va_iast (f := (mmd_command u2)) hx hb hK.1 hP hD hS 22 0 rfl rfl hin d_Md_choose_53 (fun H locs hP hD hS => ?_)
        have hP := (congrArg (fun w => va_P D kmC w H) (sw_mmd_s_command cI cN cZ a1 u2 (upd (mmd_command u2) (x1).toNatClampNeg v3))).mp hP
        have hD := (congrArg (va_D A) (sw_mmd_s_command cI cN cZ a1 u2 (upd (mmd_command u2) (x1).toNatClampNeg v3))).mp hD
        obtain ⟨w9, ew9⟩ : ∃ z : MmdT, z = mmd_s_command u2 (upd (mmd_command u2) (x1).toNatClampNeg v3) := ⟨_, rfl⟩
        rw [← ew9] at hP hD
        have hw := hw w9 ew9
        exact W.vret hx hb hr (fun t ht hW => ⟨⟨w9, rfl, hw, by rw [ht]; exact hP, hD⟩, hS.F ht⟩) hS.2.2 d_Md_choose_54
  · have hw := hw.2 h4
    refine lv_aload_n hx hb d_Md_choose_26 rfl (lv_at hl 1 rfl) ?_
    refine va_get (D := D) (ci := 6) (v := .ref (a1 21)) (C := R_Md) (T := F_Md) (N := 31) hx hb hts iw_Md hown hK.1 hP 0 rfl rfl 23 (by decide) (hts _ mw_450) (fun _ h => h) rfl d_Md_choose_27 ?_
    refine lv_iload_n hx hb d_Md_choose_30 rfl (lv_at hl 2 rfl) ?_
    obtain ⟨hin, hw⟩ := hw
    refine va_iald (f := (mmd_bestCommand u2)) hx hb hK.1 hP 21 0 rfl rfl hin d_Md_choose_31 ?_
    refine lv_goto (tgt := 53) hx hb d_Md_choose_32 (by first | rfl | decide) ?_
    obtain ⟨hin, hw⟩ := hw
    refine va_iast (f := (mmd_command u2)) hx hb hK.1 hP hD hS 22 0 rfl rfl hin d_Md_choose_53 (fun H locs hP hD hS => ?_)
    have hP := (congrArg (fun w => va_P D kmC w H) (sw_mmd_s_command cI cN cZ a1 u2 (upd (mmd_command u2) (x1).toNatClampNeg ((mmd_bestCommand u2) (x1).toNatClampNeg)))).mp hP
    have hD := (congrArg (va_D A) (sw_mmd_s_command cI cN cZ a1 u2 (upd (mmd_command u2) (x1).toNatClampNeg ((mmd_bestCommand u2) (x1).toNatClampNeg)))).mp hD
    obtain ⟨w10, ew10⟩ : ∃ z : MmdT, z = mmd_s_command u2 (upd (mmd_command u2) (x1).toNatClampNeg ((mmd_bestCommand u2) (x1).toNatClampNeg)) := ⟨_, rfl⟩
    rw [← ew10] at hP hD
    have hw := hw w10 ew10
    exact W.vret hx hb hr (fun t ht hW => ⟨⟨w10, rfl, hw, by rw [ht]; exact hP, hD⟩, hS.F ht⟩) hS.2.2 d_Md_choose_54
set_option maxHeartbeats 4000000 in
set_option maxRecDepth 100000 in
theorem c_Md_accept (l : Launch) (D : va_G) (cI cN cZ : ClassId) (a1 : Nat → Nat) (z1 : MmdT) (x1 : Int32) (x2 : Int32) (x3 : Int32) (post : Int32 → MmdT → Prop) (hw : wp_Md_accept z1 x1 x2 x3 post) : km_I l y_Md_accept (.code y_Md_accept b_Md_accept 7 (some .int) :: kmW) rm_Md_accept D kmC (kmT cI cN cZ) kmF kmM [.ref (a1 0), .int x1, .int x2, .int x3] (mmdW cI cN cZ a1 z1) (fun (r : Int32) (u : MmdT) => post r u) (fun (u : MmdT) => (mmdW cI cN cZ a1 u)) 0 0 := by
  refine km_startI (cc := b_Md_accept) (maxL := 7) (ret := (some .int)) (by decide) rfl (Nat.le_of_ble_eq_true rfl) ?_
  intro p e s m below meth c A ls hE hA hK hP hD hS hl
  obtain ⟨hx, hb, hr, hml, hown, hts0, hlk, hnm⟩ := id hE
  have hts : ∀ w ∈ kmW, w.before ([.ref (a1 0), .int x1, .int x2, .int x3] : List Value).toArray s = true := fun w h => hts0 w (List.mem_cons_of_mem _ h)
  have hP : va_P D kmC (mmdW cI cN cZ a1 z1) s.heap := hP
  have hl : lv_has ls 7 [(0, .ref (a1 0)), (1, .int x1), (2, .int x2), (3, .int x3)] := hl
  unfold wp_Md_accept at hw
  refine lv_aload_n hx hb d_Md_accept_0 rfl (lv_at hl 0 rfl) ?_
  refine lv_iload_n hx hb d_Md_accept_1 rfl (lv_at hl 1 rfl) ?_
  refine lv_iload_n hx hb d_Md_accept_2 rfl (lv_at hl 2 rfl) ?_
  refine lv_iconst (v := (1 : Int32)) hx hb d_Md_accept_3 (by decide) ?_
  refine km_ci (wr := []) (km_rV (n := 3) hE kmG (c_Md_barred l D cI cN cZ a1 z1 x1 x2 (1 : Int32) _ hw) mw_576 mw_573 mw_575 mp_35 mw_8 (by decide) ⟨rfl, rfl, ⟨by decide, by decide⟩, by decide, by decide⟩ hK (km_cut hP [0, 1, 2, 3, 4, 5, 6, 7, 8, 9, 10, 11, 12, 13, 14, 15, 16, 17, 18, 19, 20, 21, 22, 23, 24, 25] rfl) (hD.sub [0, 1, 2, 3, 4, 5, 6, 7, 8, 9, 10, 11, 12, 13, 14, 15, 16, 17, 18, 19, 20, 21, 22, 23, 24, 25] (by decide) rfl) (ci := 6) rfl hP (q0 := 0) rfl rfl hl.1 rfl (Nat.le_of_ble_eq_true rfl) d_Md_accept_4) hP hD hS hA [0, 1, 2, 3, 4, 5, 6, 7, 8, 9, 10, 11, 12, 13, 14, 15, 16, 17, 18, 19, 20, 21, 22, 23, 24, 25] [] rfl rfl (by decide) (by decide) (fun r1 u2 H locs hw hP hD hS => ?_)
  have hP : va_P D kmC (mmdW cI cN cZ a1 u2) H := hP
  have hD : va_D A (mmdW cI cN cZ a1 u2) := hD
  refine lv_istore (lv' := [(4, .int r1), (0, .ref (a1 0)), (1, .int x1), (2, .int x2), (3, .int x3)]) hx hb d_Md_accept_7 hl (by decide) rfl (fun ls hl => ?_)
  refine lv_iload hx hb d_Md_accept_9 (lv_at hl 0 rfl) ?_
  refine lv_iconst (v := (1 : Int32)) hx hb d_Md_accept_11 (by decide) ?_
  refine lv_icmp_ge (tgt := 18) hx hb d_Md_accept_12 (by first | rfl | decide) (fun h3 => ?_) (fun h3 => ?_)
  · have hw := hw.1 h3
    refine lv_aload_n hx hb d_Md_accept_18 rfl (lv_at hl 1 rfl) ?_
    refine va_get (D := D) (ci := 6) (v := .ref (a1 22)) (C := R_Md) (T := F_Md) (N := 31) hx hb hts iw_Md hown hK.1 hP 0 rfl rfl 24 (by decide) (hts _ mw_451) (fun _ h => h) rfl d_Md_accept_19 ?_
    refine lv_iload_n hx hb d_Md_accept_22 rfl (lv_at hl 2 rfl) ?_
    obtain ⟨hin, hw⟩ := hw
    refine va_iald (f := (mmd_command u2)) hx hb hK.1 hP 22 0 rfl rfl hin d_Md_accept_23 ?_
    refine lv_if_ge (tgt := 32) hx hb d_Md_accept_24 (by first | rfl | decide) (fun h4 => ?_) (fun h4 => ?_)
    · have hw := hw.1 h4
      refine lv_bipush (v := (9 : Int32)) hx hb d_Md_accept_32 (by decide) ?_
      refine lv_aload_n hx hb d_Md_accept_34 rfl (lv_at hl 1 rfl) ?_
      refine va_get (D := D) (ci := 6) (v := .ref (a1 7)) (C := R_Md) (T := F_Md) (N := 31) hx hb hts iw_Md hown hK.1 hP 0 rfl rfl 9 (by decide) (hts _ mw_436) (fun _ h => h) rfl d_Md_accept_35 ?_
      refine lv_iload_n hx hb d_Md_accept_38 rfl (lv_at hl 2 rfl) ?_
      obtain ⟨hin, hw⟩ := hw
      refine va_iald (f := (mmd_configuration u2)) hx hb hK.1 hP 7 0 rfl rfl hin d_Md_accept_39 ?_
      refine lv_imul hx hb d_Md_accept_40 ?_
      refine lv_aload_n hx hb d_Md_accept_41 rfl (lv_at hl 1 rfl) ?_
      refine va_get (D := D) (ci := 6) (v := .ref (a1 16)) (C := R_Md) (T := F_Md) (N := 31) hx hb hts iw_Md hown hK.1 hP 0 rfl rfl 18 (by decide) (hts _ mw_445) (fun _ h => h) rfl d_Md_accept_42 ?_
      refine lv_iload_n hx hb d_Md_accept_45 rfl (lv_at hl 2 rfl) ?_
      obtain ⟨hin, hw⟩ := hw
      refine va_iald (f := (mmd_slot u2)) hx hb hK.1 hP 16 0 rfl rfl hin d_Md_accept_46 ?_
      refine lv_iadd hx hb d_Md_accept_47 ?_
      refine lv_topi (fun v5 ev5 => ?_)
      have hw := hw v5 ev5
      refine lv_istore (lv' := [(5, .int v5), (4, .int r1), (0, .ref (a1 0)), (1, .int x1), (2, .int x2), (3, .int x3)]) hx hb d_Md_accept_48 hl (by decide) rfl (fun ls hl => ?_)
      refine lv_aload_n hx hb d_Md_accept_50 rfl (lv_at hl 2 rfl) ?_
      refine lv_iload_n hx hb d_Md_accept_51 rfl (lv_at hl 3 rfl) ?_
      refine lv_iload_n hx hb d_Md_accept_52 rfl (lv_at hl 4 rfl) ?_
      refine lv_iload_n hx hb d_Md_accept_53 rfl (lv_at hl 5 rfl) ?_
      refine km_ci (wr := []) (km_rV (n := 3) hE kmG (c_Md_answer l D cI cN cZ a1 u2 x1 x2 x3 _ hw) mw_588 mw_585 mw_587 mp_38 mw_8 (by decide) ⟨rfl, rfl, ⟨by decide, by decide⟩, by decide, by decide⟩ hK (km_cut hP [0, 1, 2, 3, 4, 5, 6, 7, 8, 9, 10, 11, 12, 13, 14, 15, 16, 17, 18, 19, 20, 21, 22, 23, 24, 25] rfl) (hD.sub [0, 1, 2, 3, 4, 5, 6, 7, 8, 9, 10, 11, 12, 13, 14, 15, 16, 17, 18, 19, 20, 21, 22, 23, 24, 25] (by decide) rfl) (ci := 6) rfl hP (q0 := 0) rfl rfl hl.1 rfl (Nat.le_of_ble_eq_true rfl) d_Md_accept_54) hP hD hS hA [0, 1, 2, 3, 4, 5, 6, 7, 8, 9, 10, 11, 12, 13, 14, 15, 16, 17, 18, 19, 20, 21, 22, 23, 24, 25] [] rfl rfl (by decide) (by decide) (fun r6 u7 H locs hw hP hD hS => ?_)
      have hP : va_P D kmC (mmdW cI cN cZ a1 u7) H := hP
      have hD : va_D A (mmdW cI cN cZ a1 u7) := hD
      refine lv_istore (lv' := [(6, .int r6), (5, .int v5), (4, .int r1), (0, .ref (a1 0)), (1, .int x1), (2, .int x2), (3, .int x3)]) hx hb d_Md_accept_57 hl (by decide) rfl (fun ls hl => ?_)
      refine lv_iload hx hb d_Md_accept_59 (lv_at hl 0 rfl) ?_
      refine lv_iconst (v := (1 : Int32)) hx hb d_Md_accept_61 (by decide) ?_
      refine lv_icmp_eq (tgt := 68) hx hb d_Md_accept_62 (by first | rfl | decide) (fun h8 => ?_) (fun h8 => ?_)
      · have hw := hw.1 h8
        refine lv_aload_n hx hb d_Md_accept_68 rfl (lv_at hl 3 rfl) ?_
        refine va_get (D := D) (ci := 6) (v := .ref (a1 14)) (C := R_Md) (T := F_Md) (N := 31) hx hb hts iw_Md hown hK.1 hP 0 rfl rfl 16 (by decide) (hts _ mw_443) (fun _ h => h) rfl d_Md_accept_69 ?_
        refine lv_bipush (v := (45 : Int32)) hx hb d_Md_accept_72 (by decide) ?_
        refine lv_iload_n hx hb d_Md_accept_74 rfl (lv_at hl 5 rfl) ?_
        refine lv_imul hx hb d_Md_accept_75 ?_
        refine lv_iload hx hb d_Md_accept_76 (lv_at hl 1 rfl) ?_
        refine lv_iadd hx hb d_Md_accept_78 ?_
        refine lv_aload_n hx hb d_Md_accept_79 rfl (lv_at hl 3 rfl) ?_
        refine va_get (D := D) (ci := 6) (v := .ref (a1 17)) (C := R_Md) (T := F_Md) (N := 31) hx hb hts iw_Md hown hK.1 hP 0 rfl rfl 19 (by decide) (hts _ mw_446) (fun _ h => h) rfl d_Md_accept_80 ?_
        refine lv_iload_n hx hb d_Md_accept_83 rfl (lv_at hl 4 rfl) ?_
        obtain ⟨hin, hw⟩ := hw
        refine va_iald (f := (mmd_ballot u7)) hx hb hK.1 hP 17 0 rfl rfl hin d_Md_accept_84 ?_
        obtain ⟨hin, hw⟩ := hw
        refine va_iast (f := (mmd_voteBallot u7)) hx hb hK.1 hP hD hS 14 0 rfl rfl hin d_Md_accept_85 (fun H locs hP hD hS => ?_)
        have hP := (congrArg (fun w => va_P D kmC w H) (sw_mmd_s_voteBallot cI cN cZ a1 u7 (upd (mmd_voteBallot u7) ((((45 : Int32) * x2) + v5)).toNatClampNeg ((mmd_ballot u7) (x1).toNatClampNeg)))).mp hP
        have hD := (congrArg (va_D A) (sw_mmd_s_voteBallot cI cN cZ a1 u7 (upd (mmd_voteBallot u7) ((((45 : Int32) * x2) + v5)).toNatClampNeg ((mmd_ballot u7) (x1).toNatClampNeg)))).mp hD
        obtain ⟨w9, ew9⟩ : ∃ z : MmdT, z = mmd_s_voteBallot u7 (upd (mmd_voteBallot u7) ((((45 : Int32) * x2) + v5)).toNatClampNeg ((mmd_ballot u7) (x1).toNatClampNeg)) := ⟨_, rfl⟩
        rw [← ew9] at hP hD
        have hw := hw w9 ew9
        refine lv_aload_n hx hb d_Md_accept_86 rfl (lv_at hl 3 rfl) ?_
        refine va_get (D := D) (ci := 6) (v := .ref (a1 15)) (C := R_Md) (T := F_Md) (N := 31) hx hb hts iw_Md hown hK.1 hP 0 rfl rfl 17 (by decide) (hts _ mw_444) (fun _ h => h) rfl d_Md_accept_87 ?_
        refine lv_bipush (v := (45 : Int32)) hx hb d_Md_accept_90 (by decide) ?_
        refine lv_iload_n hx hb d_Md_accept_92 rfl (lv_at hl 5 rfl) ?_
        refine lv_imul hx hb d_Md_accept_93 ?_
        refine lv_iload hx hb d_Md_accept_94 (lv_at hl 1 rfl) ?_
        refine lv_iadd hx hb d_Md_accept_96 ?_
        refine lv_aload_n hx hb d_Md_accept_97 rfl (lv_at hl 3 rfl) ?_
        refine va_get (D := D) (ci := 6) (v := .ref (a1 22)) (C := R_Md) (T := F_Md) (N := 31) hx hb hts iw_Md hown hK.1 hP 0 rfl rfl 24 (by decide) (hts _ mw_451) (fun _ h => h) rfl d_Md_accept_98 ?_
        refine lv_iload_n hx hb d_Md_accept_101 rfl (lv_at hl 4 rfl) ?_
        obtain ⟨hin, hw⟩ := hw
        refine va_iald (f := (mmd_command w9)) hx hb hK.1 hP 22 0 rfl rfl hin d_Md_accept_102 ?_
        obtain ⟨hin, hw⟩ := hw
        refine va_iast (f := (mmd_voteCommand w9)) hx hb hK.1 hP hD hS 15 0 rfl rfl hin d_Md_accept_103 (fun H locs hP hD hS => ?_)
        have hP := (congrArg (fun w => va_P D kmC w H) (sw_mmd_s_voteCommand cI cN cZ a1 w9 (upd (mmd_voteCommand w9) ((((45 : Int32) * x2) + v5)).toNatClampNeg ((mmd_command w9) (x1).toNatClampNeg)))).mp hP
        have hD := (congrArg (va_D A) (sw_mmd_s_voteCommand cI cN cZ a1 w9 (upd (mmd_voteCommand w9) ((((45 : Int32) * x2) + v5)).toNatClampNeg ((mmd_command w9) (x1).toNatClampNeg)))).mp hD
        obtain ⟨w10, ew10⟩ : ∃ z : MmdT, z = mmd_s_voteCommand w9 (upd (mmd_voteCommand w9) ((((45 : Int32) * x2) + v5)).toNatClampNeg ((mmd_command w9) (x1).toNatClampNeg)) := ⟨_, rfl⟩
        rw [← ew10] at hP hD
        have hw := hw w10 ew10
        refine lv_iload_n hx hb d_Md_accept_104 rfl (lv_at hl 6 rfl) ?_
        refine lv_if_ne (tgt := 110) hx hb d_Md_accept_105 (by first | rfl | decide) (fun h11 => ?_) (fun h11 => ?_)
        · have hw := hw.2 h11
          refine lv_aload_n hx hb d_Md_accept_110 rfl (lv_at hl 3 rfl) ?_
          refine va_get (D := D) (ci := 6) (v := .ref (a1 19)) (C := R_Md) (T := F_Md) (N := 31) hx hb hts iw_Md hown hK.1 hP 0 rfl rfl 21 (by decide) (hts _ mw_448) (fun _ h => h) rfl d_Md_accept_111 ?_
          refine lv_iload_n hx hb d_Md_accept_114 rfl (lv_at hl 4 rfl) ?_
          refine lv_dup2_11 hx hb d_Md_accept_115 rfl rfl ?_
          obtain ⟨hin, hw⟩ := hw
          refine va_iald (f := (mmd_voters w10)) hx hb hK.1 hP 19 0 rfl rfl hin d_Md_accept_116 ?_
          refine lv_iconst (v := (1 : Int32)) hx hb d_Md_accept_117 (by decide) ?_
          refine lv_iload_n hx hb d_Md_accept_118 rfl (lv_at hl 5 rfl) ?_
          refine lv_ishl hx hb d_Md_accept_119 ?_
          refine lv_ior hx hb d_Md_accept_120 ?_
          obtain ⟨hin, hw⟩ := hw
          refine va_iast (f := (mmd_voters w10)) hx hb hK.1 hP hD hS 19 0 rfl rfl hin d_Md_accept_121 (fun H locs hP hD hS => ?_)
          have hP := (congrArg (fun w => va_P D kmC w H) (sw_mmd_s_voters cI cN cZ a1 w10 (upd (mmd_voters w10) (x1).toNatClampNeg (((mmd_voters w10) (x1).toNatClampNeg) ||| ((1 : Int32) <<< (x2 &&& 31)))))).mp hP
          have hD := (congrArg (va_D A) (sw_mmd_s_voters cI cN cZ a1 w10 (upd (mmd_voters w10) (x1).toNatClampNeg (((mmd_voters w10) (x1).toNatClampNeg) ||| ((1 : Int32) <<< (x2 &&& 31)))))).mp hD
          obtain ⟨w12, ew12⟩ : ∃ z : MmdT, z = mmd_s_voters w10 (upd (mmd_voters w10) (x1).toNatClampNeg (((mmd_voters w10) (x1).toNatClampNeg) ||| ((1 : Int32) <<< (x2 &&& 31)))) := ⟨_, rfl⟩
          rw [← ew12] at hP hD
          have hw := hw w12 ew12
          refine lv_aload_n hx hb d_Md_accept_122 rfl (lv_at hl 3 rfl) ?_
          refine lv_aload_n hx hb d_Md_accept_123 rfl (lv_at hl 3 rfl) ?_
          refine va_get (D := D) (ci := 6) (v := .ref (a1 19)) (C := R_Md) (T := F_Md) (N := 31) hx hb hts iw_Md hown hK.1 hP 0 rfl rfl 21 (by decide) (hts _ mw_448) (fun _ h => h) rfl d_Md_accept_124 ?_
          refine lv_iload_n hx hb d_Md_accept_127 rfl (lv_at hl 4 rfl) ?_
          obtain ⟨hin, hw⟩ := hw
          refine va_iald (f := (mmd_voters w12)) hx hb hK.1 hP 19 0 rfl rfl hin d_Md_accept_128 ?_
          refine lv_iload_n hx hb d_Md_accept_129 rfl (lv_at hl 4 rfl) ?_
          refine km_ci (wr := []) (km_rV (n := 2) hE kmG (c_Md_majority l D cI cN cZ a1 w12 ((mmd_voters w12) (x1).toNatClampNeg) x1 _ hw) mw_584 mw_581 mw_583 mp_37 mw_8 (by decide) ⟨rfl, rfl, ⟨by decide, by decide⟩, by decide, by decide⟩ hK (km_cut hP [0, 1, 2, 3, 4, 5, 6, 7, 8, 9, 10, 11, 12, 13, 14, 15, 16, 17, 18, 19, 20, 21, 22, 23, 24, 25] rfl) (hD.sub [0, 1, 2, 3, 4, 5, 6, 7, 8, 9, 10, 11, 12, 13, 14, 15, 16, 17, 18, 19, 20, 21, 22, 23, 24, 25] (by decide) rfl) (ci := 6) rfl hP (q0 := 0) rfl rfl hl.1 rfl (Nat.le_of_ble_eq_true rfl) d_Md_accept_130) hP hD hS hA [0, 1, 2, 3, 4, 5, 6, 7, 8, 9, 10, 11, 12, 13, 14, 15, 16, 17, 18, 19, 20, 21, 22, 23, 24, 25] [] rfl rfl (by decide) (by decide) (fun r13 u14 H locs hw hP hD hS => ?_)
          have hP : va_P D kmC (mmdW cI cN cZ a1 u14) H := hP
          have hD : va_D A (mmdW cI cN cZ a1 u14) := hD
          refine lv_if_ne (tgt := 138) hx hb d_Md_accept_133 (by first | rfl | decide) (fun h15 => ?_) (fun h15 => ?_)
          · have hw := hw.2 h15
            refine lv_aload_n hx hb d_Md_accept_138 rfl (lv_at hl 3 rfl) ?_
            refine va_get (D := D) (ci := 6) (v := .ref (a1 6)) (C := R_Md) (T := F_Md) (N := 31) hx hb hts iw_Md hown hK.1 hP 0 rfl rfl 7 (by decide) (hts _ mw_434) (fun _ h => h) rfl d_Md_accept_139 ?_
            refine lv_iload hx hb d_Md_accept_142 (lv_at hl 1 rfl) ?_
            obtain ⟨hin, hw⟩ := hw
            refine va_iald (f := (mmd_decided u14)) hx hb hK.1 hP 6 0 rfl rfl hin d_Md_accept_144 ?_
            refine lv_if_ge (tgt := 161) hx hb d_Md_accept_145 (by first | rfl | decide) (fun h16 => ?_) (fun h16 => ?_)
            · have hw := hw.1 h16
              refine lv_aload_n hx hb d_Md_accept_161 rfl (lv_at hl 3 rfl) ?_
              refine va_get (D := D) (ci := 6) (v := .ref (a1 9)) (C := R_Md) (T := F_Md) (N := 31) hx hb hts iw_Md hown hK.1 hP 0 rfl rfl 11 (by decide) (hts _ mw_438) (fun _ h => h) rfl d_Md_accept_162 ?_
              refine lv_iload_n hx hb d_Md_accept_165 rfl (lv_at hl 4 rfl) ?_
              refine lv_dup2_11 hx hb d_Md_accept_166 rfl rfl ?_
              obtain ⟨hin, hw⟩ := hw
              refine va_iald (f := (mmd_known u14)) hx hb hK.1 hP 9 0 rfl rfl hin d_Md_accept_167 ?_
              refine lv_iconst (v := (1 : Int32)) hx hb d_Md_accept_168 (by decide) ?_
              refine lv_aload_n hx hb d_Md_accept_169 rfl (lv_at hl 3 rfl) ?_
              refine va_get (D := D) (ci := 6) (v := .ref (a1 16)) (C := R_Md) (T := F_Md) (N := 31) hx hb hts iw_Md hown hK.1 hP 0 rfl rfl 18 (by decide) (hts _ mw_445) (fun _ h => h) rfl d_Md_accept_170 ?_
              refine lv_iload_n hx hb d_Md_accept_173 rfl (lv_at hl 4 rfl) ?_
              obtain ⟨hin, hw⟩ := hw
              refine va_iald (f := (mmd_slot u14)) hx hb hK.1 hP 16 0 rfl rfl hin d_Md_accept_174 ?_
              refine lv_ishl hx hb d_Md_accept_175 ?_
              refine lv_ior hx hb d_Md_accept_176 ?_
              obtain ⟨hin, hw⟩ := hw
              refine va_iast (f := (mmd_known u14)) hx hb hK.1 hP hD hS 9 0 rfl rfl hin d_Md_accept_177 (fun H locs hP hD hS => ?_)
              have hP := (congrArg (fun w => va_P D kmC w H) (sw_mmd_s_known cI cN cZ a1 u14 (upd (mmd_known u14) (x1).toNatClampNeg (((mmd_known u14) (x1).toNatClampNeg) ||| ((1 : Int32) <<< (((mmd_slot u14) (x1).toNatClampNeg) &&& 31)))))).mp hP
              have hD := (congrArg (va_D A) (sw_mmd_s_known cI cN cZ a1 u14 (upd (mmd_known u14) (x1).toNatClampNeg (((mmd_known u14) (x1).toNatClampNeg) ||| ((1 : Int32) <<< (((mmd_slot u14) (x1).toNatClampNeg) &&& 31)))))).mp hD
              obtain ⟨w17, ew17⟩ : ∃ z : MmdT, z = mmd_s_known u14 (upd (mmd_known u14) (x1).toNatClampNeg (((mmd_known u14) (x1).toNatClampNeg) ||| ((1 : Int32) <<< (((mmd_slot u14) (x1).toNatClampNeg) &&& 31)))) := ⟨_, rfl⟩
              rw [← ew17] at hP hD
              have hw := hw w17 ew17
              refine lv_aload_n hx hb d_Md_accept_178 rfl (lv_at hl 3 rfl) ?_
              refine lv_iload_n hx hb d_Md_accept_179 rfl (lv_at hl 4 rfl) ?_
              refine km_cv (wr := []) (km_rV (n := 1) hE kmG (c_Md_goOn l D cI cN cZ a1 w17 x1 _ hw) mw_608 mw_605 mw_607 mp_42 mw_8 (by decide) ⟨rfl, rfl, ⟨by decide, by decide⟩, by decide, by decide⟩ hK (km_cut hP [0, 1, 2, 3, 4, 5, 6, 7, 8, 9, 10, 11, 12, 13, 14, 15, 16, 17, 18, 19, 20, 21, 22, 23, 24, 25] rfl) (hD.sub [0, 1, 2, 3, 4, 5, 6, 7, 8, 9, 10, 11, 12, 13, 14, 15, 16, 17, 18, 19, 20, 21, 22, 23, 24, 25] (by decide) rfl) (ci := 6) rfl hP (q0 := 0) rfl rfl hl.1 rfl (Nat.le_of_ble_eq_true rfl) d_Md_accept_180) hP hD hS hA [0, 1, 2, 3, 4, 5, 6, 7, 8, 9, 10, 11, 12, 13, 14, 15, 16, 17, 18, 19, 20, 21, 22, 23, 24, 25] [] rfl rfl (by decide) (by decide) (fun u19 H locs hw hP hD hS => ?_)
              have hP : va_P D kmC (mmdW cI cN cZ a1 u19) H := hP
              have hD : va_D A (mmdW cI cN cZ a1 u19) := hD
              refine lv_iconst (v := (1 : Int32)) hx hb d_Md_accept_183 (by decide) ?_
              exact W.iret (v := (1 : Int32)) hx hb hr (fun t ht hW => ⟨⟨(1 : Int32), u19, rfl, hw, by rw [ht]; exact hP, hD⟩, hS.F ht⟩) hS.2.2 d_Md_accept_184
            · have hw := hw.2 h16
              refine lv_aload_n hx hb d_Md_accept_148 rfl (lv_at hl 3 rfl) ?_
              refine va_get (D := D) (ci := 6) (v := .ref (a1 6)) (C := R_Md) (T := F_Md) (N := 31) hx hb hts iw_Md hown hK.1 hP 0 rfl rfl 7 (by decide) (hts _ mw_434) (fun _ h => h) rfl d_Md_accept_149 ?_
              refine lv_iload hx hb d_Md_accept_152 (lv_at hl 1 rfl) ?_
              refine lv_aload_n hx hb d_Md_accept_154 rfl (lv_at hl 3 rfl) ?_
              refine va_get (D := D) (ci := 6) (v := .ref (a1 22)) (C := R_Md) (T := F_Md) (N := 31) hx hb hts iw_Md hown hK.1 hP 0 rfl rfl 24 (by decide) (hts _ mw_451) (fun _ h => h) rfl d_Md_accept_155 ?_
              refine lv_iload_n hx hb d_Md_accept_158 rfl (lv_at hl 4 rfl) ?_
              obtain ⟨hin, hw⟩ := hw
              refine va_iald (f := (mmd_command u14)) hx hb hK.1 hP 22 0 rfl rfl hin d_Md_accept_159 ?_
              obtain ⟨hin, hw⟩ := hw
              refine va_iast (f := (mmd_decided u14)) hx hb hK.1 hP hD hS 6 0 rfl rfl hin d_Md_accept_160 (fun H locs hP hD hS => ?_)
              have hP := (congrArg (fun w => va_P D kmC w H) (sw_mmd_s_decided cI cN cZ a1 u14 (upd (mmd_decided u14) (v5).toNatClampNeg ((mmd_command u14) (x1).toNatClampNeg)))).mp hP
              have hD := (congrArg (va_D A) (sw_mmd_s_decided cI cN cZ a1 u14 (upd (mmd_decided u14) (v5).toNatClampNeg ((mmd_command u14) (x1).toNatClampNeg)))).mp hD
              obtain ⟨w20, ew20⟩ : ∃ z : MmdT, z = mmd_s_decided u14 (upd (mmd_decided u14) (v5).toNatClampNeg ((mmd_command u14) (x1).toNatClampNeg)) := ⟨_, rfl⟩
              rw [← ew20] at hP hD
              have hw := hw w20 ew20
              refine lv_aload_n hx hb d_Md_accept_161 rfl (lv_at hl 3 rfl) ?_
              refine va_get (D := D) (ci := 6) (v := .ref (a1 9)) (C := R_Md) (T := F_Md) (N := 31) hx hb hts iw_Md hown hK.1 hP 0 rfl rfl 11 (by decide) (hts _ mw_438) (fun _ h => h) rfl d_Md_accept_162 ?_
              refine lv_iload_n hx hb d_Md_accept_165 rfl (lv_at hl 4 rfl) ?_
              refine lv_dup2_11 hx hb d_Md_accept_166 rfl rfl ?_
              obtain ⟨hin, hw⟩ := hw
              refine va_iald (f := (mmd_known w20)) hx hb hK.1 hP 9 0 rfl rfl hin d_Md_accept_167 ?_
              refine lv_iconst (v := (1 : Int32)) hx hb d_Md_accept_168 (by decide) ?_
              refine lv_aload_n hx hb d_Md_accept_169 rfl (lv_at hl 3 rfl) ?_
              refine va_get (D := D) (ci := 6) (v := .ref (a1 16)) (C := R_Md) (T := F_Md) (N := 31) hx hb hts iw_Md hown hK.1 hP 0 rfl rfl 18 (by decide) (hts _ mw_445) (fun _ h => h) rfl d_Md_accept_170 ?_
              refine lv_iload_n hx hb d_Md_accept_173 rfl (lv_at hl 4 rfl) ?_
              obtain ⟨hin, hw⟩ := hw
              refine va_iald (f := (mmd_slot w20)) hx hb hK.1 hP 16 0 rfl rfl hin d_Md_accept_174 ?_
              refine lv_ishl hx hb d_Md_accept_175 ?_
              refine lv_ior hx hb d_Md_accept_176 ?_
              obtain ⟨hin, hw⟩ := hw
              refine va_iast (f := (mmd_known w20)) hx hb hK.1 hP hD hS 9 0 rfl rfl hin d_Md_accept_177 (fun H locs hP hD hS => ?_)
              have hP := (congrArg (fun w => va_P D kmC w H) (sw_mmd_s_known cI cN cZ a1 w20 (upd (mmd_known w20) (x1).toNatClampNeg (((mmd_known w20) (x1).toNatClampNeg) ||| ((1 : Int32) <<< (((mmd_slot w20) (x1).toNatClampNeg) &&& 31)))))).mp hP
              have hD := (congrArg (va_D A) (sw_mmd_s_known cI cN cZ a1 w20 (upd (mmd_known w20) (x1).toNatClampNeg (((mmd_known w20) (x1).toNatClampNeg) ||| ((1 : Int32) <<< (((mmd_slot w20) (x1).toNatClampNeg) &&& 31)))))).mp hD
              obtain ⟨w21, ew21⟩ : ∃ z : MmdT, z = mmd_s_known w20 (upd (mmd_known w20) (x1).toNatClampNeg (((mmd_known w20) (x1).toNatClampNeg) ||| ((1 : Int32) <<< (((mmd_slot w20) (x1).toNatClampNeg) &&& 31)))) := ⟨_, rfl⟩
              rw [← ew21] at hP hD
              have hw := hw w21 ew21
              refine lv_aload_n hx hb d_Md_accept_178 rfl (lv_at hl 3 rfl) ?_
              refine lv_iload_n hx hb d_Md_accept_179 rfl (lv_at hl 4 rfl) ?_
              refine km_cv (wr := []) (km_rV (n := 1) hE kmG (c_Md_goOn l D cI cN cZ a1 w21 x1 _ hw) mw_608 mw_605 mw_607 mp_42 mw_8 (by decide) ⟨rfl, rfl, ⟨by decide, by decide⟩, by decide, by decide⟩ hK (km_cut hP [0, 1, 2, 3, 4, 5, 6, 7, 8, 9, 10, 11, 12, 13, 14, 15, 16, 17, 18, 19, 20, 21, 22, 23, 24, 25] rfl) (hD.sub [0, 1, 2, 3, 4, 5, 6, 7, 8, 9, 10, 11, 12, 13, 14, 15, 16, 17, 18, 19, 20, 21, 22, 23, 24, 25] (by decide) rfl) (ci := 6) rfl hP (q0 := 0) rfl rfl hl.1 rfl (Nat.le_of_ble_eq_true rfl) d_Md_accept_180) hP hD hS hA [0, 1, 2, 3, 4, 5, 6, 7, 8, 9, 10, 11, 12, 13, 14, 15, 16, 17, 18, 19, 20, 21, 22, 23, 24, 25] [] rfl rfl (by decide) (by decide) (fun u23 H locs hw hP hD hS => ?_)
              have hP : va_P D kmC (mmdW cI cN cZ a1 u23) H := hP
              have hD : va_D A (mmdW cI cN cZ a1 u23) := hD
              refine lv_iconst (v := (1 : Int32)) hx hb d_Md_accept_183 (by decide) ?_
              exact W.iret (v := (1 : Int32)) hx hb hr (fun t ht hW => ⟨⟨(1 : Int32), u23, rfl, hw, by rw [ht]; exact hP, hD⟩, hS.F ht⟩) hS.2.2 d_Md_accept_184
          · have hw := hw.1 h15
            refine lv_iconst (v := (1 : Int32)) hx hb d_Md_accept_136 (by decide) ?_
            exact W.iret (v := (1 : Int32)) hx hb hr (fun t ht hW => ⟨⟨(1 : Int32), u14, rfl, hw, by rw [ht]; exact hP, hD⟩, hS.F ht⟩) hS.2.2 d_Md_accept_137
        · have hw := hw.1 h11
          refine lv_iconst (v := (1 : Int32)) hx hb d_Md_accept_108 (by decide) ?_
          exact W.iret (v := (1 : Int32)) hx hb hr (fun t ht hW => ⟨⟨(1 : Int32), w10, rfl, hw, by rw [ht]; exact hP, hD⟩, hS.F ht⟩) hS.2.2 d_Md_accept_109
      · have hw := hw.2 h8
        refine lv_iload hx hb d_Md_accept_65 (lv_at hl 0 rfl) ?_
        exact W.iret (v := r6) hx hb hr (fun t ht hW => ⟨⟨r6, u7, rfl, hw, by rw [ht]; exact hP, hD⟩, hS.F ht⟩) hS.2.2 d_Md_accept_67
    · have hw := hw.2 h4
      refine lv_aload_n hx hb d_Md_accept_27 rfl (lv_at hl 1 rfl) ?_
      refine lv_iload_n hx hb d_Md_accept_28 rfl (lv_at hl 2 rfl) ?_
      refine km_cv (wr := []) (km_rV (n := 1) hE kmG (c_Md_choose l D cI cN cZ a1 u2 x1 _ hw) mw_604 mw_601 mw_603 mp_41 mw_8 (by decide) ⟨rfl, rfl, ⟨by decide, by decide⟩, by decide, by decide⟩ hK (km_cut hP [0, 1, 2, 3, 4, 5, 6, 7, 8, 9, 10, 11, 12, 13, 14, 15, 16, 17, 18, 19, 20, 21, 22, 23, 24, 25] rfl) (hD.sub [0, 1, 2, 3, 4, 5, 6, 7, 8, 9, 10, 11, 12, 13, 14, 15, 16, 17, 18, 19, 20, 21, 22, 23, 24, 25] (by decide) rfl) (ci := 6) rfl hP (q0 := 0) rfl rfl hl.1 rfl (Nat.le_of_ble_eq_true rfl) d_Md_accept_29) hP hD hS hA [0, 1, 2, 3, 4, 5, 6, 7, 8, 9, 10, 11, 12, 13, 14, 15, 16, 17, 18, 19, 20, 21, 22, 23, 24, 25] [] rfl rfl (by decide) (by decide) (fun u25 H locs hw hP hD hS => ?_)
      have hP : va_P D kmC (mmdW cI cN cZ a1 u25) H := hP
      have hD : va_D A (mmdW cI cN cZ a1 u25) := hD
      refine lv_bipush (v := (9 : Int32)) hx hb d_Md_accept_32 (by decide) ?_
      refine lv_aload_n hx hb d_Md_accept_34 rfl (lv_at hl 1 rfl) ?_
      refine va_get (D := D) (ci := 6) (v := .ref (a1 7)) (C := R_Md) (T := F_Md) (N := 31) hx hb hts iw_Md hown hK.1 hP 0 rfl rfl 9 (by decide) (hts _ mw_436) (fun _ h => h) rfl d_Md_accept_35 ?_
      refine lv_iload_n hx hb d_Md_accept_38 rfl (lv_at hl 2 rfl) ?_
      obtain ⟨hin, hw⟩ := hw
      refine va_iald (f := (mmd_configuration u25)) hx hb hK.1 hP 7 0 rfl rfl hin d_Md_accept_39 ?_
      refine lv_imul hx hb d_Md_accept_40 ?_
      refine lv_aload_n hx hb d_Md_accept_41 rfl (lv_at hl 1 rfl) ?_
      refine va_get (D := D) (ci := 6) (v := .ref (a1 16)) (C := R_Md) (T := F_Md) (N := 31) hx hb hts iw_Md hown hK.1 hP 0 rfl rfl 18 (by decide) (hts _ mw_445) (fun _ h => h) rfl d_Md_accept_42 ?_
      refine lv_iload_n hx hb d_Md_accept_45 rfl (lv_at hl 2 rfl) ?_
      obtain ⟨hin, hw⟩ := hw
      refine va_iald (f := (mmd_slot u25)) hx hb hK.1 hP 16 0 rfl rfl hin d_Md_accept_46 ?_
      refine lv_iadd hx hb d_Md_accept_47 ?_
      refine lv_topi (fun v26 ev26 => ?_)
      have hw := hw v26 ev26
      refine lv_istore (lv' := [(5, .int v26), (4, .int r1), (0, .ref (a1 0)), (1, .int x1), (2, .int x2), (3, .int x3)]) hx hb d_Md_accept_48 hl (by decide) rfl (fun ls hl => ?_)
      refine lv_aload_n hx hb d_Md_accept_50 rfl (lv_at hl 2 rfl) ?_
      refine lv_iload_n hx hb d_Md_accept_51 rfl (lv_at hl 3 rfl) ?_
      refine lv_iload_n hx hb d_Md_accept_52 rfl (lv_at hl 4 rfl) ?_
      refine lv_iload_n hx hb d_Md_accept_53 rfl (lv_at hl 5 rfl) ?_
      refine km_ci (wr := []) (km_rV (n := 3) hE kmG (c_Md_answer l D cI cN cZ a1 u25 x1 x2 x3 _ hw) mw_588 mw_585 mw_587 mp_38 mw_8 (by decide) ⟨rfl, rfl, ⟨by decide, by decide⟩, by decide, by decide⟩ hK (km_cut hP [0, 1, 2, 3, 4, 5, 6, 7, 8, 9, 10, 11, 12, 13, 14, 15, 16, 17, 18, 19, 20, 21, 22, 23, 24, 25] rfl) (hD.sub [0, 1, 2, 3, 4, 5, 6, 7, 8, 9, 10, 11, 12, 13, 14, 15, 16, 17, 18, 19, 20, 21, 22, 23, 24, 25] (by decide) rfl) (ci := 6) rfl hP (q0 := 0) rfl rfl hl.1 rfl (Nat.le_of_ble_eq_true rfl) d_Md_accept_54) hP hD hS hA [0, 1, 2, 3, 4, 5, 6, 7, 8, 9, 10, 11, 12, 13, 14, 15, 16, 17, 18, 19, 20, 21, 22, 23, 24, 25] [] rfl rfl (by decide) (by decide) (fun r27 u28 H locs hw hP hD hS => ?_)
      have hP : va_P D kmC (mmdW cI cN cZ a1 u28) H := hP
      have hD : va_D A (mmdW cI cN cZ a1 u28) := hD
      refine lv_istore (lv' := [(6, .int r27), (5, .int v26), (4, .int r1), (0, .ref (a1 0)), (1, .int x1), (2, .int x2), (3, .int x3)]) hx hb d_Md_accept_57 hl (by decide) rfl (fun ls hl => ?_)
      refine lv_iload hx hb d_Md_accept_59 (lv_at hl 0 rfl) ?_
      refine lv_iconst (v := (1 : Int32)) hx hb d_Md_accept_61 (by decide) ?_
      refine lv_icmp_eq (tgt := 68) hx hb d_Md_accept_62 (by first | rfl | decide) (fun h29 => ?_) (fun h29 => ?_)
      · have hw := hw.1 h29
        refine lv_aload_n hx hb d_Md_accept_68 rfl (lv_at hl 3 rfl) ?_
        refine va_get (D := D) (ci := 6) (v := .ref (a1 14)) (C := R_Md) (T := F_Md) (N := 31) hx hb hts iw_Md hown hK.1 hP 0 rfl rfl 16 (by decide) (hts _ mw_443) (fun _ h => h) rfl d_Md_accept_69 ?_
        refine lv_bipush (v := (45 : Int32)) hx hb d_Md_accept_72 (by decide) ?_
        refine lv_iload_n hx hb d_Md_accept_74 rfl (lv_at hl 5 rfl) ?_
        refine lv_imul hx hb d_Md_accept_75 ?_
        refine lv_iload hx hb d_Md_accept_76 (lv_at hl 1 rfl) ?_
        refine lv_iadd hx hb d_Md_accept_78 ?_
        refine lv_aload_n hx hb d_Md_accept_79 rfl (lv_at hl 3 rfl) ?_
        refine va_get (D := D) (ci := 6) (v := .ref (a1 17)) (C := R_Md) (T := F_Md) (N := 31) hx hb hts iw_Md hown hK.1 hP 0 rfl rfl 19 (by decide) (hts _ mw_446) (fun _ h => h) rfl d_Md_accept_80 ?_
        refine lv_iload_n hx hb d_Md_accept_83 rfl (lv_at hl 4 rfl) ?_
        obtain ⟨hin, hw⟩ := hw
        refine va_iald (f := (mmd_ballot u28)) hx hb hK.1 hP 17 0 rfl rfl hin d_Md_accept_84 ?_
        obtain ⟨hin, hw⟩ := hw
        refine va_iast (f := (mmd_voteBallot u28)) hx hb hK.1 hP hD hS 14 0 rfl rfl hin d_Md_accept_85 (fun H locs hP hD hS => ?_)
        have hP := (congrArg (fun w => va_P D kmC w H) (sw_mmd_s_voteBallot cI cN cZ a1 u28 (upd (mmd_voteBallot u28) ((((45 : Int32) * x2) + v26)).toNatClampNeg ((mmd_ballot u28) (x1).toNatClampNeg)))).mp hP
        have hD := (congrArg (va_D A) (sw_mmd_s_voteBallot cI cN cZ a1 u28 (upd (mmd_voteBallot u28) ((((45 : Int32) * x2) + v26)).toNatClampNeg ((mmd_ballot u28) (x1).toNatClampNeg)))).mp hD
        obtain ⟨w30, ew30⟩ : ∃ z : MmdT, z = mmd_s_voteBallot u28 (upd (mmd_voteBallot u28) ((((45 : Int32) * x2) + v26)).toNatClampNeg ((mmd_ballot u28) (x1).toNatClampNeg)) := ⟨_, rfl⟩
        rw [← ew30] at hP hD
        have hw := hw w30 ew30
        refine lv_aload_n hx hb d_Md_accept_86 rfl (lv_at hl 3 rfl) ?_
        refine va_get (D := D) (ci := 6) (v := .ref (a1 15)) (C := R_Md) (T := F_Md) (N := 31) hx hb hts iw_Md hown hK.1 hP 0 rfl rfl 17 (by decide) (hts _ mw_444) (fun _ h => h) rfl d_Md_accept_87 ?_
        refine lv_bipush (v := (45 : Int32)) hx hb d_Md_accept_90 (by decide) ?_
        refine lv_iload_n hx hb d_Md_accept_92 rfl (lv_at hl 5 rfl) ?_
        refine lv_imul hx hb d_Md_accept_93 ?_
        refine lv_iload hx hb d_Md_accept_94 (lv_at hl 1 rfl) ?_
        refine lv_iadd hx hb d_Md_accept_96 ?_
        refine lv_aload_n hx hb d_Md_accept_97 rfl (lv_at hl 3 rfl) ?_
        refine va_get (D := D) (ci := 6) (v := .ref (a1 22)) (C := R_Md) (T := F_Md) (N := 31) hx hb hts iw_Md hown hK.1 hP 0 rfl rfl 24 (by decide) (hts _ mw_451) (fun _ h => h) rfl d_Md_accept_98 ?_
        refine lv_iload_n hx hb d_Md_accept_101 rfl (lv_at hl 4 rfl) ?_
        obtain ⟨hin, hw⟩ := hw
        refine va_iald (f := (mmd_command w30)) hx hb hK.1 hP 22 0 rfl rfl hin d_Md_accept_102 ?_
        obtain ⟨hin, hw⟩ := hw
        refine va_iast (f := (mmd_voteCommand w30)) hx hb hK.1 hP hD hS 15 0 rfl rfl hin d_Md_accept_103 (fun H locs hP hD hS => ?_)
        have hP := (congrArg (fun w => va_P D kmC w H) (sw_mmd_s_voteCommand cI cN cZ a1 w30 (upd (mmd_voteCommand w30) ((((45 : Int32) * x2) + v26)).toNatClampNeg ((mmd_command w30) (x1).toNatClampNeg)))).mp hP
        have hD := (congrArg (va_D A) (sw_mmd_s_voteCommand cI cN cZ a1 w30 (upd (mmd_voteCommand w30) ((((45 : Int32) * x2) + v26)).toNatClampNeg ((mmd_command w30) (x1).toNatClampNeg)))).mp hD
        obtain ⟨w31, ew31⟩ : ∃ z : MmdT, z = mmd_s_voteCommand w30 (upd (mmd_voteCommand w30) ((((45 : Int32) * x2) + v26)).toNatClampNeg ((mmd_command w30) (x1).toNatClampNeg)) := ⟨_, rfl⟩
        rw [← ew31] at hP hD
        have hw := hw w31 ew31
        refine lv_iload_n hx hb d_Md_accept_104 rfl (lv_at hl 6 rfl) ?_
        refine lv_if_ne (tgt := 110) hx hb d_Md_accept_105 (by first | rfl | decide) (fun h32 => ?_) (fun h32 => ?_)
        · have hw := hw.2 h32
          refine lv_aload_n hx hb d_Md_accept_110 rfl (lv_at hl 3 rfl) ?_
          refine va_get (D := D) (ci := 6) (v := .ref (a1 19)) (C := R_Md) (T := F_Md) (N := 31) hx hb hts iw_Md hown hK.1 hP 0 rfl rfl 21 (by decide) (hts _ mw_448) (fun _ h => h) rfl d_Md_accept_111 ?_
          refine lv_iload_n hx hb d_Md_accept_114 rfl (lv_at hl 4 rfl) ?_
          refine lv_dup2_11 hx hb d_Md_accept_115 rfl rfl ?_
          obtain ⟨hin, hw⟩ := hw
          refine va_iald (f := (mmd_voters w31)) hx hb hK.1 hP 19 0 rfl rfl hin d_Md_accept_116 ?_
          refine lv_iconst (v := (1 : Int32)) hx hb d_Md_accept_117 (by decide) ?_
          refine lv_iload_n hx hb d_Md_accept_118 rfl (lv_at hl 5 rfl) ?_
          refine lv_ishl hx hb d_Md_accept_119 ?_
          refine lv_ior hx hb d_Md_accept_120 ?_
          obtain ⟨hin, hw⟩ := hw
          refine va_iast (f := (mmd_voters w31)) hx hb hK.1 hP hD hS 19 0 rfl rfl hin d_Md_accept_121 (fun H locs hP hD hS => ?_)
          have hP := (congrArg (fun w => va_P D kmC w H) (sw_mmd_s_voters cI cN cZ a1 w31 (upd (mmd_voters w31) (x1).toNatClampNeg (((mmd_voters w31) (x1).toNatClampNeg) ||| ((1 : Int32) <<< (x2 &&& 31)))))).mp hP
          have hD := (congrArg (va_D A) (sw_mmd_s_voters cI cN cZ a1 w31 (upd (mmd_voters w31) (x1).toNatClampNeg (((mmd_voters w31) (x1).toNatClampNeg) ||| ((1 : Int32) <<< (x2 &&& 31)))))).mp hD
          obtain ⟨w33, ew33⟩ : ∃ z : MmdT, z = mmd_s_voters w31 (upd (mmd_voters w31) (x1).toNatClampNeg (((mmd_voters w31) (x1).toNatClampNeg) ||| ((1 : Int32) <<< (x2 &&& 31)))) := ⟨_, rfl⟩
          rw [← ew33] at hP hD
          have hw := hw w33 ew33
          refine lv_aload_n hx hb d_Md_accept_122 rfl (lv_at hl 3 rfl) ?_
          refine lv_aload_n hx hb d_Md_accept_123 rfl (lv_at hl 3 rfl) ?_
          refine va_get (D := D) (ci := 6) (v := .ref (a1 19)) (C := R_Md) (T := F_Md) (N := 31) hx hb hts iw_Md hown hK.1 hP 0 rfl rfl 21 (by decide) (hts _ mw_448) (fun _ h => h) rfl d_Md_accept_124 ?_
          refine lv_iload_n hx hb d_Md_accept_127 rfl (lv_at hl 4 rfl) ?_
          obtain ⟨hin, hw⟩ := hw
          refine va_iald (f := (mmd_voters w33)) hx hb hK.1 hP 19 0 rfl rfl hin d_Md_accept_128 ?_
          refine lv_iload_n hx hb d_Md_accept_129 rfl (lv_at hl 4 rfl) ?_
          refine km_ci (wr := []) (km_rV (n := 2) hE kmG (c_Md_majority l D cI cN cZ a1 w33 ((mmd_voters w33) (x1).toNatClampNeg) x1 _ hw) mw_584 mw_581 mw_583 mp_37 mw_8 (by decide) ⟨rfl, rfl, ⟨by decide, by decide⟩, by decide, by decide⟩ hK (km_cut hP [0, 1, 2, 3, 4, 5, 6, 7, 8, 9, 10, 11, 12, 13, 14, 15, 16, 17, 18, 19, 20, 21, 22, 23, 24, 25] rfl) (hD.sub [0, 1, 2, 3, 4, 5, 6, 7, 8, 9, 10, 11, 12, 13, 14, 15, 16, 17, 18, 19, 20, 21, 22, 23, 24, 25] (by decide) rfl) (ci := 6) rfl hP (q0 := 0) rfl rfl hl.1 rfl (Nat.le_of_ble_eq_true rfl) d_Md_accept_130) hP hD hS hA [0, 1, 2, 3, 4, 5, 6, 7, 8, 9, 10, 11, 12, 13, 14, 15, 16, 17, 18, 19, 20, 21, 22, 23, 24, 25] [] rfl rfl (by decide) (by decide) (fun r34 u35 H locs hw hP hD hS => ?_)
          have hP : va_P D kmC (mmdW cI cN cZ a1 u35) H := hP
          have hD : va_D A (mmdW cI cN cZ a1 u35) := hD
          refine lv_if_ne (tgt := 138) hx hb d_Md_accept_133 (by first | rfl | decide) (fun h36 => ?_) (fun h36 => ?_)
          · have hw := hw.2 h36
            refine lv_aload_n hx hb d_Md_accept_138 rfl (lv_at hl 3 rfl) ?_
            refine va_get (D := D) (ci := 6) (v := .ref (a1 6)) (C := R_Md) (T := F_Md) (N := 31) hx hb hts iw_Md hown hK.1 hP 0 rfl rfl 7 (by decide) (hts _ mw_434) (fun _ h => h) rfl d_Md_accept_139 ?_
            refine lv_iload hx hb d_Md_accept_142 (lv_at hl 1 rfl) ?_
            obtain ⟨hin, hw⟩ := hw
            refine va_iald (f := (mmd_decided u35)) hx hb hK.1 hP 6 0 rfl rfl hin d_Md_accept_144 ?_
            refine lv_if_ge (tgt := 161) hx hb d_Md_accept_145 (by first | rfl | decide) (fun h37 => ?_) (fun h37 => ?_)
            · have hw := hw.1 h37
              refine lv_aload_n hx hb d_Md_accept_161 rfl (lv_at hl 3 rfl) ?_
              refine va_get (D := D) (ci := 6) (v := .ref (a1 9)) (C := R_Md) (T := F_Md) (N := 31) hx hb hts iw_Md hown hK.1 hP 0 rfl rfl 11 (by decide) (hts _ mw_438) (fun _ h => h) rfl d_Md_accept_162 ?_
              refine lv_iload_n hx hb d_Md_accept_165 rfl (lv_at hl 4 rfl) ?_
              refine lv_dup2_11 hx hb d_Md_accept_166 rfl rfl ?_
              obtain ⟨hin, hw⟩ := hw
              refine va_iald (f := (mmd_known u35)) hx hb hK.1 hP 9 0 rfl rfl hin d_Md_accept_167 ?_
              refine lv_iconst (v := (1 : Int32)) hx hb d_Md_accept_168 (by decide) ?_
              refine lv_aload_n hx hb d_Md_accept_169 rfl (lv_at hl 3 rfl) ?_
              refine va_get (D := D) (ci := 6) (v := .ref (a1 16)) (C := R_Md) (T := F_Md) (N := 31) hx hb hts iw_Md hown hK.1 hP 0 rfl rfl 18 (by decide) (hts _ mw_445) (fun _ h => h) rfl d_Md_accept_170 ?_
              refine lv_iload_n hx hb d_Md_accept_173 rfl (lv_at hl 4 rfl) ?_
              obtain ⟨hin, hw⟩ := hw
              refine va_iald (f := (mmd_slot u35)) hx hb hK.1 hP 16 0 rfl rfl hin d_Md_accept_174 ?_
              refine lv_ishl hx hb d_Md_accept_175 ?_
              refine lv_ior hx hb d_Md_accept_176 ?_
              obtain ⟨hin, hw⟩ := hw
              refine va_iast (f := (mmd_known u35)) hx hb hK.1 hP hD hS 9 0 rfl rfl hin d_Md_accept_177 (fun H locs hP hD hS => ?_)
              have hP := (congrArg (fun w => va_P D kmC w H) (sw_mmd_s_known cI cN cZ a1 u35 (upd (mmd_known u35) (x1).toNatClampNeg (((mmd_known u35) (x1).toNatClampNeg) ||| ((1 : Int32) <<< (((mmd_slot u35) (x1).toNatClampNeg) &&& 31)))))).mp hP
              have hD := (congrArg (va_D A) (sw_mmd_s_known cI cN cZ a1 u35 (upd (mmd_known u35) (x1).toNatClampNeg (((mmd_known u35) (x1).toNatClampNeg) ||| ((1 : Int32) <<< (((mmd_slot u35) (x1).toNatClampNeg) &&& 31)))))).mp hD
              obtain ⟨w38, ew38⟩ : ∃ z : MmdT, z = mmd_s_known u35 (upd (mmd_known u35) (x1).toNatClampNeg (((mmd_known u35) (x1).toNatClampNeg) ||| ((1 : Int32) <<< (((mmd_slot u35) (x1).toNatClampNeg) &&& 31)))) := ⟨_, rfl⟩
              rw [← ew38] at hP hD
              have hw := hw w38 ew38
              refine lv_aload_n hx hb d_Md_accept_178 rfl (lv_at hl 3 rfl) ?_
              refine lv_iload_n hx hb d_Md_accept_179 rfl (lv_at hl 4 rfl) ?_
              refine km_cv (wr := []) (km_rV (n := 1) hE kmG (c_Md_goOn l D cI cN cZ a1 w38 x1 _ hw) mw_608 mw_605 mw_607 mp_42 mw_8 (by decide) ⟨rfl, rfl, ⟨by decide, by decide⟩, by decide, by decide⟩ hK (km_cut hP [0, 1, 2, 3, 4, 5, 6, 7, 8, 9, 10, 11, 12, 13, 14, 15, 16, 17, 18, 19, 20, 21, 22, 23, 24, 25] rfl) (hD.sub [0, 1, 2, 3, 4, 5, 6, 7, 8, 9, 10, 11, 12, 13, 14, 15, 16, 17, 18, 19, 20, 21, 22, 23, 24, 25] (by decide) rfl) (ci := 6) rfl hP (q0 := 0) rfl rfl hl.1 rfl (Nat.le_of_ble_eq_true rfl) d_Md_accept_180) hP hD hS hA [0, 1, 2, 3, 4, 5, 6, 7, 8, 9, 10, 11, 12, 13, 14, 15, 16, 17, 18, 19, 20, 21, 22, 23, 24, 25] [] rfl rfl (by decide) (by decide) (fun u40 H locs hw hP hD hS => ?_)
              have hP : va_P D kmC (mmdW cI cN cZ a1 u40) H := hP
              have hD : va_D A (mmdW cI cN cZ a1 u40) := hD
              refine lv_iconst (v := (1 : Int32)) hx hb d_Md_accept_183 (by decide) ?_
              exact W.iret (v := (1 : Int32)) hx hb hr (fun t ht hW => ⟨⟨(1 : Int32), u40, rfl, hw, by rw [ht]; exact hP, hD⟩, hS.F ht⟩) hS.2.2 d_Md_accept_184
            · have hw := hw.2 h37
              refine lv_aload_n hx hb d_Md_accept_148 rfl (lv_at hl 3 rfl) ?_
              refine va_get (D := D) (ci := 6) (v := .ref (a1 6)) (C := R_Md) (T := F_Md) (N := 31) hx hb hts iw_Md hown hK.1 hP 0 rfl rfl 7 (by decide) (hts _ mw_434) (fun _ h => h) rfl d_Md_accept_149 ?_
              refine lv_iload hx hb d_Md_accept_152 (lv_at hl 1 rfl) ?_
              refine lv_aload_n hx hb d_Md_accept_154 rfl (lv_at hl 3 rfl) ?_
              refine va_get (D := D) (ci := 6) (v := .ref (a1 22)) (C := R_Md) (T := F_Md) (N := 31) hx hb hts iw_Md hown hK.1 hP 0 rfl rfl 24 (by decide) (hts _ mw_451) (fun _ h => h) rfl d_Md_accept_155 ?_
              refine lv_iload_n hx hb d_Md_accept_158 rfl (lv_at hl 4 rfl) ?_
              obtain ⟨hin, hw⟩ := hw
              refine va_iald (f := (mmd_command u35)) hx hb hK.1 hP 22 0 rfl rfl hin d_Md_accept_159 ?_
              obtain ⟨hin, hw⟩ := hw
              refine va_iast (f := (mmd_decided u35)) hx hb hK.1 hP hD hS 6 0 rfl rfl hin d_Md_accept_160 (fun H locs hP hD hS => ?_)
              have hP := (congrArg (fun w => va_P D kmC w H) (sw_mmd_s_decided cI cN cZ a1 u35 (upd (mmd_decided u35) (v26).toNatClampNeg ((mmd_command u35) (x1).toNatClampNeg)))).mp hP
              have hD := (congrArg (va_D A) (sw_mmd_s_decided cI cN cZ a1 u35 (upd (mmd_decided u35) (v26).toNatClampNeg ((mmd_command u35) (x1).toNatClampNeg)))).mp hD
              obtain ⟨w41, ew41⟩ : ∃ z : MmdT, z = mmd_s_decided u35 (upd (mmd_decided u35) (v26).toNatClampNeg ((mmd_command u35) (x1).toNatClampNeg)) := ⟨_, rfl⟩
              rw [← ew41] at hP hD
              have hw := hw w41 ew41
              refine lv_aload_n hx hb d_Md_accept_161 rfl (lv_at hl 3 rfl) ?_
              refine va_get (D := D) (ci := 6) (v := .ref (a1 9)) (C := R_Md) (T := F_Md) (N := 31) hx hb hts iw_Md hown hK.1 hP 0 rfl rfl 11 (by decide) (hts _ mw_438) (fun _ h => h) rfl d_Md_accept_162 ?_
              refine lv_iload_n hx hb d_Md_accept_165 rfl (lv_at hl 4 rfl) ?_
              refine lv_dup2_11 hx hb d_Md_accept_166 rfl rfl ?_
              obtain ⟨hin, hw⟩ := hw
              refine va_iald (f := (mmd_known w41)) hx hb hK.1 hP 9 0 rfl rfl hin d_Md_accept_167 ?_
              refine lv_iconst (v := (1 : Int32)) hx hb d_Md_accept_168 (by decide) ?_
              refine lv_aload_n hx hb d_Md_accept_169 rfl (lv_at hl 3 rfl) ?_
              refine va_get (D := D) (ci := 6) (v := .ref (a1 16)) (C := R_Md) (T := F_Md) (N := 31) hx hb hts iw_Md hown hK.1 hP 0 rfl rfl 18 (by decide) (hts _ mw_445) (fun _ h => h) rfl d_Md_accept_170 ?_
              refine lv_iload_n hx hb d_Md_accept_173 rfl (lv_at hl 4 rfl) ?_
              obtain ⟨hin, hw⟩ := hw
              refine va_iald (f := (mmd_slot w41)) hx hb hK.1 hP 16 0 rfl rfl hin d_Md_accept_174 ?_
              refine lv_ishl hx hb d_Md_accept_175 ?_
              refine lv_ior hx hb d_Md_accept_176 ?_
              obtain ⟨hin, hw⟩ := hw
              refine va_iast (f := (mmd_known w41)) hx hb hK.1 hP hD hS 9 0 rfl rfl hin d_Md_accept_177 (fun H locs hP hD hS => ?_)
              have hP := (congrArg (fun w => va_P D kmC w H) (sw_mmd_s_known cI cN cZ a1 w41 (upd (mmd_known w41) (x1).toNatClampNeg (((mmd_known w41) (x1).toNatClampNeg) ||| ((1 : Int32) <<< (((mmd_slot w41) (x1).toNatClampNeg) &&& 31)))))).mp hP
              have hD := (congrArg (va_D A) (sw_mmd_s_known cI cN cZ a1 w41 (upd (mmd_known w41) (x1).toNatClampNeg (((mmd_known w41) (x1).toNatClampNeg) ||| ((1 : Int32) <<< (((mmd_slot w41) (x1).toNatClampNeg) &&& 31)))))).mp hD
              obtain ⟨w42, ew42⟩ : ∃ z : MmdT, z = mmd_s_known w41 (upd (mmd_known w41) (x1).toNatClampNeg (((mmd_known w41) (x1).toNatClampNeg) ||| ((1 : Int32) <<< (((mmd_slot w41) (x1).toNatClampNeg) &&& 31)))) := ⟨_, rfl⟩
              rw [← ew42] at hP hD
              have hw := hw w42 ew42
              refine lv_aload_n hx hb d_Md_accept_178 rfl (lv_at hl 3 rfl) ?_
              refine lv_iload_n hx hb d_Md_accept_179 rfl (lv_at hl 4 rfl) ?_
              refine km_cv (wr := []) (km_rV (n := 1) hE kmG (c_Md_goOn l D cI cN cZ a1 w42 x1 _ hw) mw_608 mw_605 mw_607 mp_42 mw_8 (by decide) ⟨rfl, rfl, ⟨by decide, by decide⟩, by decide, by decide⟩ hK (km_cut hP [0, 1, 2, 3, 4, 5, 6, 7, 8, 9, 10, 11, 12, 13, 14, 15, 16, 17, 18, 19, 20, 21, 22, 23, 24, 25] rfl) (hD.sub [0, 1, 2, 3, 4, 5, 6, 7, 8, 9, 10, 11, 12, 13, 14, 15, 16, 17, 18, 19, 20, 21, 22, 23, 24, 25] (by decide) rfl) (ci := 6) rfl hP (q0 := 0) rfl rfl hl.1 rfl (Nat.le_of_ble_eq_true rfl) d_Md_accept_180) hP hD hS hA [0, 1, 2, 3, 4, 5, 6, 7, 8, 9, 10, 11, 12, 13, 14, 15, 16, 17, 18, 19, 20, 21, 22, 23, 24, 25] [] rfl rfl (by decide) (by decide) (fun u44 H locs hw hP hD hS => ?_)
              have hP : va_P D kmC (mmdW cI cN cZ a1 u44) H := hP
              have hD : va_D A (mmdW cI cN cZ a1 u44) := hD
              refine lv_iconst (v := (1 : Int32)) hx hb d_Md_accept_183 (by decide) ?_
              exact W.iret (v := (1 : Int32)) hx hb hr (fun t ht hW => ⟨⟨(1 : Int32), u44, rfl, hw, by rw [ht]; exact hP, hD⟩, hS.F ht⟩) hS.2.2 d_Md_accept_184
          · have hw := hw.1 h36
            refine lv_iconst (v := (1 : Int32)) hx hb d_Md_accept_136 (by decide) ?_
            exact W.iret (v := (1 : Int32)) hx hb hr (fun t ht hW => ⟨⟨(1 : Int32), u35, rfl, hw, by rw [ht]; exact hP, hD⟩, hS.F ht⟩) hS.2.2 d_Md_accept_137
        · have hw := hw.1 h32
          refine lv_iconst (v := (1 : Int32)) hx hb d_Md_accept_108 (by decide) ?_
          exact W.iret (v := (1 : Int32)) hx hb hr (fun t ht hW => ⟨⟨(1 : Int32), w31, rfl, hw, by rw [ht]; exact hP, hD⟩, hS.F ht⟩) hS.2.2 d_Md_accept_109
      · have hw := hw.2 h29
        refine lv_iload hx hb d_Md_accept_65 (lv_at hl 0 rfl) ?_
        exact W.iret (v := r27) hx hb hr (fun t ht hW => ⟨⟨r27, u28, rfl, hw, by rw [ht]; exact hP, hD⟩, hS.F ht⟩) hS.2.2 d_Md_accept_67
  · have hw := hw.2 h3
    refine lv_iload hx hb d_Md_accept_15 (lv_at hl 0 rfl) ?_
    exact W.iret (v := r1) hx hb hr (fun t ht hW => ⟨⟨r1, u2, rfl, hw, by rw [ht]; exact hP, hD⟩, hS.F ht⟩) hS.2.2 d_Md_accept_17
set_option maxHeartbeats 4000000 in
set_option maxRecDepth 100000 in
theorem c_Md_tell (l : Launch) (D : va_G) (cI cN cZ : ClassId) (a1 : Nat → Nat) (z1 : MmdT) (x1 : Int32) (x2 : Int32) (post : Int32 → MmdT → Prop) (hw : wp_Md_tell z1 x1 x2 post) : km_I l y_Md_tell (.code y_Md_tell b_Md_tell 7 (some .int) :: kmW) rm_Md_tell D kmC (kmT cI cN cZ) kmF kmM [.ref (a1 0), .int x1, .int x2] (mmdW cI cN cZ a1 z1) (fun (r : Int32) (u : MmdT) => post r u) (fun (u : MmdT) => (mmdW cI cN cZ a1 u)) 0 0 := by
  refine km_startI (cc := b_Md_tell) (maxL := 7) (ret := (some .int)) (by decide) rfl (Nat.le_of_ble_eq_true rfl) ?_
  intro p e s m below meth c A ls hE hA hK hP hD hS hl
  obtain ⟨hx, hb, hr, hml, hown, hts0, hlk, hnm⟩ := id hE
  have hts : ∀ w ∈ kmW, w.before ([.ref (a1 0), .int x1, .int x2] : List Value).toArray s = true := fun w h => hts0 w (List.mem_cons_of_mem _ h)
  have hP : va_P D kmC (mmdW cI cN cZ a1 z1) s.heap := hP
  have hl : lv_has ls 7 [(0, .ref (a1 0)), (1, .int x1), (2, .int x2)] := hl
  unfold wp_Md_tell at hw
  refine lv_iload_n hx hb d_Md_tell_0 rfl (lv_at hl 1 rfl) ?_
  refine km_ci (wr := [(a1 0, .inr (6, [.int (mmd_requests z1), .ref (a1 1), .ref (a1 2), .ref (a1 3), .ref (a1 4), .ref (a1 5), .int (mmd_router z1), .ref (a1 6), .int (mmd_up z1), .ref (a1 7), .ref (a1 8), .ref (a1 9), .ref (a1 10), .ref (a1 11), .ref (a1 12), .ref (a1 13), .ref (a1 14), .ref (a1 15), .ref (a1 16), .ref (a1 17), .ref (a1 18), .ref (a1 19), .ref (a1 20), .ref (a1 21), .ref (a1 22), .ref (a1 23), .ref (a1 24), .ref (a1 25), .int (mmd_members z1), .int (mmd_atC z1), .int (mmd_atE z1)])), (a1 1, .inl (cI, 31, .inl (mmd_kindOf z1))), (a1 2, .inl (cI, 31, .inl (mmd_keyOf z1))), (a1 3, .inl (cI, 31, .inl (mmd_numberOf z1))), (a1 4, .inl (cI, 31, .inl (mmd_heardOf z1))), (a1 5, .inl (cI, 31, .inl (mmd_replyOf z1))), (a1 6, .inl (cI, 45, .inl (mmd_decided z1))), (a1 7, .inl (cI, 6, .inl (mmd_configuration z1))), (a1 8, .inl (cI, 6, .inl (mmd_executed z1))), (a1 9, .inl (cI, 6, .inl (mmd_known z1))), (a1 10, .inl (cI, 6, .inl (mmd_last z1))), (a1 11, .inl (cI, 6, .inl (mmd_retired z1))), (a1 12, .inl (cI, 6, .inl (mmd_pending z1))), (a1 13, .inl (cI, 270, .inl (mmd_promised z1))), (a1 14, .inl (cI, 270, .inl (mmd_voteBallot z1))), (a1 15, .inl (cI, 270, .inl (mmd_voteCommand z1))), (a1 16, .inl (cI, 6, .inl (mmd_slot z1))), (a1 17, .inl (cI, 6, .inl (mmd_ballot z1))), (a1 18, .inl (cI, 6, .inl (mmd_promisers z1))), (a1 19, .inl (cI, 6, .inl (mmd_voters z1))), (a1 20, .inl (cI, 6, .inl (mmd_bestBallot z1))), (a1 21, .inl (cI, 6, .inl (mmd_bestCommand z1))), (a1 22, .inl (cI, 6, .inl (mmd_command z1))), (a1 23, .inl (cI, 4, .inl (mmd_values z1))), (a1 24, .inl (cZ, 31, .inl (mmd_done z1))), (a1 25, .inl (cI, 31, .inl (mmd_answers z1)))]) (km_rS (n := 1) hE kmG (c_Md_node l D cI cN cZ x1 _ hw) mw_535 mw_533 mw_534 mw_8 (by decide) ⟨rfl, rfl, ⟨by decide, by decide⟩, by decide, by decide⟩ hK (km_cut hP [] rfl) (hD.sub [] (by decide) rfl) rfl hl.1 rfl (Nat.le_of_ble_eq_true rfl) d_Md_tell_1) hP hD hS hA [] [0, 1, 2, 3, 4, 5, 6, 7, 8, 9, 10, 11, 12, 13, 14, 15, 16, 17, 18, 19, 20, 21, 22, 23, 24, 25] rfl rfl (by decide) (by decide) (fun r1 _ H locs hw hP hD hS => ?_)
  have hP := hP.sub (ws' := (mmdW cI cN cZ a1 z1)) [0, 1, 2, 3, 4, 5, 6, 7, 8, 9, 10, 11, 12, 13, 14, 15, 16, 17, 18, 19, 20, 21, 22, 23, 24, 25] rfl
  have hD := hD.sub (ws' := (mmdW cI cN cZ a1 z1)) [0, 1, 2, 3, 4, 5, 6, 7, 8, 9, 10, 11, 12, 13, 14, 15, 16, 17, 18, 19, 20, 21, 22, 23, 24, 25] (by decide) rfl
  refine lv_if_eq (tgt := 19) hx hb d_Md_tell_4 (by first | rfl | decide) (fun h2 => ?_) (fun h2 => ?_)
  · have hw := hw.1 h2
    refine lv_iconst (v := (-1 : Int32)) hx hb d_Md_tell_19 (by decide) ?_
    exact W.iret (v := (-1 : Int32)) hx hb hr (fun t ht hW => ⟨⟨(-1 : Int32), z1, rfl, hw, by rw [ht]; exact hP, hD⟩, hS.F ht⟩) hS.2.2 d_Md_tell_20
  · have hw := hw.2 h2
    refine lv_iload_n hx hb d_Md_tell_7 rfl (lv_at hl 2 rfl) ?_
    refine km_ci (wr := [(a1 0, .inr (6, [.int (mmd_requests z1), .ref (a1 1), .ref (a1 2), .ref (a1 3), .ref (a1 4), .ref (a1 5), .int (mmd_router z1), .ref (a1 6), .int (mmd_up z1), .ref (a1 7), .ref (a1 8), .ref (a1 9), .ref (a1 10), .ref (a1 11), .ref (a1 12), .ref (a1 13), .ref (a1 14), .ref (a1 15), .ref (a1 16), .ref (a1 17), .ref (a1 18), .ref (a1 19), .ref (a1 20), .ref (a1 21), .ref (a1 22), .ref (a1 23), .ref (a1 24), .ref (a1 25), .int (mmd_members z1), .int (mmd_atC z1), .int (mmd_atE z1)])), (a1 1, .inl (cI, 31, .inl (mmd_kindOf z1))), (a1 2, .inl (cI, 31, .inl (mmd_keyOf z1))), (a1 3, .inl (cI, 31, .inl (mmd_numberOf z1))), (a1 4, .inl (cI, 31, .inl (mmd_heardOf z1))), (a1 5, .inl (cI, 31, .inl (mmd_replyOf z1))), (a1 6, .inl (cI, 45, .inl (mmd_decided z1))), (a1 7, .inl (cI, 6, .inl (mmd_configuration z1))), (a1 8, .inl (cI, 6, .inl (mmd_executed z1))), (a1 9, .inl (cI, 6, .inl (mmd_known z1))), (a1 10, .inl (cI, 6, .inl (mmd_last z1))), (a1 11, .inl (cI, 6, .inl (mmd_retired z1))), (a1 12, .inl (cI, 6, .inl (mmd_pending z1))), (a1 13, .inl (cI, 270, .inl (mmd_promised z1))), (a1 14, .inl (cI, 270, .inl (mmd_voteBallot z1))), (a1 15, .inl (cI, 270, .inl (mmd_voteCommand z1))), (a1 16, .inl (cI, 6, .inl (mmd_slot z1))), (a1 17, .inl (cI, 6, .inl (mmd_ballot z1))), (a1 18, .inl (cI, 6, .inl (mmd_promisers z1))), (a1 19, .inl (cI, 6, .inl (mmd_voters z1))), (a1 20, .inl (cI, 6, .inl (mmd_bestBallot z1))), (a1 21, .inl (cI, 6, .inl (mmd_bestCommand z1))), (a1 22, .inl (cI, 6, .inl (mmd_command z1))), (a1 23, .inl (cI, 4, .inl (mmd_values z1))), (a1 24, .inl (cZ, 31, .inl (mmd_done z1))), (a1 25, .inl (cI, 31, .inl (mmd_answers z1)))]) (km_rS (n := 1) hE kmG (c_Md_node l D cI cN cZ x2 _ hw) mw_535 mw_533 mw_534 mw_8 (by decide) ⟨rfl, rfl, ⟨by decide, by decide⟩, by decide, by decide⟩ hK (km_cut hP [] rfl) (hD.sub [] (by decide) rfl) rfl hl.1 rfl (Nat.le_of_ble_eq_true rfl) d_Md_tell_8) hP hD hS hA [] [0, 1, 2, 3, 4, 5, 6, 7, 8, 9, 10, 11, 12, 13, 14, 15, 16, 17, 18, 19, 20, 21, 22, 23, 24, 25] rfl rfl (by decide) (by decide) (fun r3 _ H locs hw hP hD hS => ?_)
    have hP := hP.sub (ws' := (mmdW cI cN cZ a1 z1)) [0, 1, 2, 3, 4, 5, 6, 7, 8, 9, 10, 11, 12, 13, 14, 15, 16, 17, 18, 19, 20, 21, 22, 23, 24, 25] rfl
    have hD := hD.sub (ws' := (mmdW cI cN cZ a1 z1)) [0, 1, 2, 3, 4, 5, 6, 7, 8, 9, 10, 11, 12, 13, 14, 15, 16, 17, 18, 19, 20, 21, 22, 23, 24, 25] (by decide) rfl
    refine lv_if_eq (tgt := 19) hx hb d_Md_tell_11 (by first | rfl | decide) (fun h4 => ?_) (fun h4 => ?_)
    · have hw := hw.1 h4
      refine lv_iconst (v := (-1 : Int32)) hx hb d_Md_tell_19 (by decide) ?_
      exact W.iret (v := (-1 : Int32)) hx hb hr (fun t ht hW => ⟨⟨(-1 : Int32), z1, rfl, hw, by rw [ht]; exact hP, hD⟩, hS.F ht⟩) hS.2.2 d_Md_tell_20
    · have hw := hw.2 h4
      refine lv_iload_n hx hb d_Md_tell_14 rfl (lv_at hl 1 rfl) ?_
      refine lv_iload_n hx hb d_Md_tell_15 rfl (lv_at hl 2 rfl) ?_
      refine lv_icmp_ne (tgt := 21) hx hb d_Md_tell_16 (by first | rfl | decide) (fun h5 => ?_) (fun h5 => ?_)
      · have hw := hw.2 h5
        refine lv_aload_n hx hb d_Md_tell_21 rfl (lv_at hl 0 rfl) ?_
        refine lv_iload_n hx hb d_Md_tell_22 rfl (lv_at hl 1 rfl) ?_
        refine km_ci (wr := []) (km_rV (n := 1) hE kmG (c_Md_isUp l D cI cN cZ a1 z1 x1 _ hw) mw_539 mw_536 mw_538 mp_29 mw_8 (by decide) ⟨rfl, rfl, ⟨by decide, by decide⟩, by decide, by decide⟩ hK (km_cut hP [0, 1, 2, 3, 4, 5, 6, 7, 8, 9, 10, 11, 12, 13, 14, 15, 16, 17, 18, 19, 20, 21, 22, 23, 24, 25] rfl) (hD.sub [0, 1, 2, 3, 4, 5, 6, 7, 8, 9, 10, 11, 12, 13, 14, 15, 16, 17, 18, 19, 20, 21, 22, 23, 24, 25] (by decide) rfl) (ci := 6) rfl hP (q0 := 0) rfl rfl hl.1 rfl (Nat.le_of_ble_eq_true rfl) d_Md_tell_23) hP hD hS hA [0, 1, 2, 3, 4, 5, 6, 7, 8, 9, 10, 11, 12, 13, 14, 15, 16, 17, 18, 19, 20, 21, 22, 23, 24, 25] [] rfl rfl (by decide) (by decide) (fun r6 u7 H locs hw hP hD hS => ?_)
        have hP : va_P D kmC (mmdW cI cN cZ a1 u7) H := hP
        have hD : va_D A (mmdW cI cN cZ a1 u7) := hD
        refine lv_if_eq (tgt := 37) hx hb d_Md_tell_26 (by first | rfl | decide) (fun h8 => ?_) (fun h8 => ?_)
        · have hw := hw.1 h8
          refine lv_bipush (v := (-2 : Int32)) hx hb d_Md_tell_37 (by decide) ?_
          exact W.iret (v := (-2 : Int32)) hx hb hr (fun t ht hW => ⟨⟨(-2 : Int32), u7, rfl, hw, by rw [ht]; exact hP, hD⟩, hS.F ht⟩) hS.2.2 d_Md_tell_39
        · have hw := hw.2 h8
          refine lv_aload_n hx hb d_Md_tell_29 rfl (lv_at hl 0 rfl) ?_
          refine lv_iload_n hx hb d_Md_tell_30 rfl (lv_at hl 2 rfl) ?_
          refine km_ci (wr := []) (km_rV (n := 1) hE kmG (c_Md_isUp l D cI cN cZ a1 u7 x2 _ hw) mw_539 mw_536 mw_538 mp_29 mw_8 (by decide) ⟨rfl, rfl, ⟨by decide, by decide⟩, by decide, by decide⟩ hK (km_cut hP [0, 1, 2, 3, 4, 5, 6, 7, 8, 9, 10, 11, 12, 13, 14, 15, 16, 17, 18, 19, 20, 21, 22, 23, 24, 25] rfl) (hD.sub [0, 1, 2, 3, 4, 5, 6, 7, 8, 9, 10, 11, 12, 13, 14, 15, 16, 17, 18, 19, 20, 21, 22, 23, 24, 25] (by decide) rfl) (ci := 6) rfl hP (q0 := 0) rfl rfl hl.1 rfl (Nat.le_of_ble_eq_true rfl) d_Md_tell_31) hP hD hS hA [0, 1, 2, 3, 4, 5, 6, 7, 8, 9, 10, 11, 12, 13, 14, 15, 16, 17, 18, 19, 20, 21, 22, 23, 24, 25] [] rfl rfl (by decide) (by decide) (fun r9 u10 H locs hw hP hD hS => ?_)
          have hP : va_P D kmC (mmdW cI cN cZ a1 u10) H := hP
          have hD : va_D A (mmdW cI cN cZ a1 u10) := hD
          refine lv_if_ne (tgt := 40) hx hb d_Md_tell_34 (by first | rfl | decide) (fun h11 => ?_) (fun h11 => ?_)
          · have hw := hw.2 h11
            refine lv_aload_n hx hb d_Md_tell_40 rfl (lv_at hl 0 rfl) ?_
            refine va_get (D := D) (ci := 6) (v := .ref (a1 7)) (C := R_Md) (T := F_Md) (N := 31) hx hb hts iw_Md hown hK.1 hP 0 rfl rfl 9 (by decide) (hts _ mw_436) (fun _ h => h) rfl d_Md_tell_41 ?_
            refine lv_iload_n hx hb d_Md_tell_44 rfl (lv_at hl 2 rfl) ?_
            obtain ⟨hin, hw⟩ := hw
            refine va_iald (f := (mmd_configuration u10)) hx hb hK.1 hP 7 0 rfl rfl hin d_Md_tell_45 ?_
            refine lv_topi (fun v12 ev12 => ?_)
            have hw := hw v12 ev12
            refine lv_istore_n (lv' := [(3, .int v12), (0, .ref (a1 0)), (1, .int x1), (2, .int x2)]) hx hb d_Md_tell_46 rfl hl (by decide) rfl (fun ls hl => ?_)
            refine lv_aload_n hx hb d_Md_tell_47 rfl (lv_at hl 1 rfl) ?_
            refine va_get (D := D) (ci := 6) (v := .ref (a1 8)) (C := R_Md) (T := F_Md) (N := 31) hx hb hts iw_Md hown hK.1 hP 0 rfl rfl 10 (by decide) (hts _ mw_437) (fun _ h => h) rfl d_Md_tell_48 ?_
            refine lv_iload_n hx hb d_Md_tell_51 rfl (lv_at hl 3 rfl) ?_
            obtain ⟨hin, hw⟩ := hw
            refine va_iald (f := (mmd_executed u10)) hx hb hK.1 hP 8 0 rfl rfl hin d_Md_tell_52 ?_
            refine lv_topi (fun v13 ev13 => ?_)
            have hw := hw v13 ev13
            refine lv_istore (lv' := [(4, .int v13), (3, .int v12), (0, .ref (a1 0)), (1, .int x1), (2, .int x2)]) hx hb d_Md_tell_53 hl (by decide) rfl (fun ls hl => ?_)
            refine lv_aload_n hx hb d_Md_tell_55 rfl (lv_at hl 2 rfl) ?_
            refine va_get (D := D) (ci := 6) (v := .ref (a1 9)) (C := R_Md) (T := F_Md) (N := 31) hx hb hts iw_Md hown hK.1 hP 0 rfl rfl 11 (by decide) (hts _ mw_438) (fun _ h => h) rfl d_Md_tell_56 ?_
            refine lv_iload_n hx hb d_Md_tell_59 rfl (lv_at hl 4 rfl) ?_
            obtain ⟨hin, hw⟩ := hw
            refine va_iald (f := (mmd_known u10)) hx hb hK.1 hP 9 0 rfl rfl hin d_Md_tell_60 ?_
            refine lv_topi (fun v14 ev14 => ?_)
            have hw := hw v14 ev14
            refine lv_istore (lv' := [(5, .int v14), (4, .int v13), (3, .int v12), (0, .ref (a1 0)), (1, .int x1), (2, .int x2)]) hx hb d_Md_tell_61 hl (by decide) rfl (fun ls hl => ?_)
            refine lv_aload_n hx hb d_Md_tell_63 rfl (lv_at hl 3 rfl) ?_
            refine lv_iload_n hx hb d_Md_tell_64 rfl (lv_at hl 5 rfl) ?_
            refine lv_iload_n hx hb d_Md_tell_65 rfl (lv_at hl 4 rfl) ?_
            refine km_cv (wr := []) (km_rV (n := 2) hE kmG (c_Md_install l D cI cN cZ a1 u10 x2 x1 _ hw) mw_592 mw_589 mw_591 mp_39 mw_8 (by decide) ⟨rfl, rfl, ⟨by decide, by decide⟩, by decide, by decide⟩ hK (km_cut hP [0, 1, 2, 3, 4, 5, 6, 7, 8, 9, 10, 11, 12, 13, 14, 15, 16, 17, 18, 19, 20, 21, 22, 23, 24, 25] rfl) (hD.sub [0, 1, 2, 3, 4, 5, 6, 7, 8, 9, 10, 11, 12, 13, 14, 15, 16, 17, 18, 19, 20, 21, 22, 23, 24, 25] (by decide) rfl) (ci := 6) rfl hP (q0 := 0) rfl rfl hl.1 rfl (Nat.le_of_ble_eq_true rfl) d_Md_tell_66) hP hD hS hA [0, 1, 2, 3, 4, 5, 6, 7, 8, 9, 10, 11, 12, 13, 14, 15, 16, 17, 18, 19, 20, 21, 22, 23, 24, 25] [] rfl rfl (by decide) (by decide) (fun u16 H locs hw hP hD hS => ?_)
            have hP : va_P D kmC (mmdW cI cN cZ a1 u16) H := hP
            have hD : va_D A (mmdW cI cN cZ a1 u16) := hD
            refine lv_aload_n hx hb d_Md_tell_69 rfl (lv_at hl 3 rfl) ?_
            refine va_get (D := D) (ci := 6) (v := .ref (a1 7)) (C := R_Md) (T := F_Md) (N := 31) hx hb hts iw_Md hown hK.1 hP 0 rfl rfl 9 (by decide) (hts _ mw_436) (fun _ h => h) rfl d_Md_tell_70 ?_
            refine lv_iload_n hx hb d_Md_tell_73 rfl (lv_at hl 4 rfl) ?_
            obtain ⟨hin, hw⟩ := hw
            refine va_iald (f := (mmd_configuration u16)) hx hb hK.1 hP 7 0 rfl rfl hin d_Md_tell_74 ?_
            refine lv_aload_n hx hb d_Md_tell_75 rfl (lv_at hl 3 rfl) ?_
            refine va_get (D := D) (ci := 6) (v := .ref (a1 7)) (C := R_Md) (T := F_Md) (N := 31) hx hb hts iw_Md hown hK.1 hP 0 rfl rfl 9 (by decide) (hts _ mw_436) (fun _ h => h) rfl d_Md_tell_76 ?_
            refine lv_iload_n hx hb d_Md_tell_79 rfl (lv_at hl 5 rfl) ?_
            obtain ⟨hin, hw⟩ := hw
            refine va_iald (f := (mmd_configuration u16)) hx hb hK.1 hP 7 0 rfl rfl hin d_Md_tell_80 ?_
            refine lv_icmp_ne (tgt := 127) hx hb d_Md_tell_81 (by first | rfl | decide) (fun h17 => ?_) (fun h17 => ?_)
            · have hw := hw.2 h17
              refine lv_aload_n hx hb d_Md_tell_127 rfl (lv_at hl 3 rfl) ?_
              refine va_get (D := D) (ci := 6) (v := .ref (a1 7)) (C := R_Md) (T := F_Md) (N := 31) hx hb hts iw_Md hown hK.1 hP 0 rfl rfl 9 (by decide) (hts _ mw_436) (fun _ h => h) rfl d_Md_tell_128 ?_
              refine lv_iload_n hx hb d_Md_tell_131 rfl (lv_at hl 5 rfl) ?_
              obtain ⟨hin, hw⟩ := hw
              refine va_iald (f := (mmd_configuration u16)) hx hb hK.1 hP 7 0 rfl rfl hin d_Md_tell_132 ?_
              refine lv_iload_n hx hb d_Md_tell_133 rfl (lv_at hl 2 rfl) ?_
              refine lv_icmp_ne (tgt := 159) hx hb d_Md_tell_134 (by first | rfl | decide) (fun h18 => ?_) (fun h18 => ?_)
              · have hw := hw.2 h18
                refine lv_iconst (v := (1 : Int32)) hx hb d_Md_tell_159 (by decide) ?_
                refine lv_goto (tgt := 164) hx hb d_Md_tell_160 (by first | rfl | decide) ?_
                refine lv_istore (lv' := [(6, .int (1 : Int32)), (5, .int v14), (4, .int v13), (3, .int v12), (0, .ref (a1 0)), (1, .int x1), (2, .int x2)]) hx hb d_Md_tell_164 hl (by decide) rfl (fun ls hl => ?_)
                refine lv_aload_n hx hb d_Md_tell_166 rfl (lv_at hl 4 rfl) ?_
                refine lv_iload_n hx hb d_Md_tell_167 rfl (lv_at hl 6 rfl) ?_
                refine km_cv (wr := []) (km_rV (n := 1) hE kmG (c_Md_goOn l D cI cN cZ a1 u16 x2 _ hw) mw_608 mw_605 mw_607 mp_42 mw_8 (by decide) ⟨rfl, rfl, ⟨by decide, by decide⟩, by decide, by decide⟩ hK (km_cut hP [0, 1, 2, 3, 4, 5, 6, 7, 8, 9, 10, 11, 12, 13, 14, 15, 16, 17, 18, 19, 20, 21, 22, 23, 24, 25] rfl) (hD.sub [0, 1, 2, 3, 4, 5, 6, 7, 8, 9, 10, 11, 12, 13, 14, 15, 16, 17, 18, 19, 20, 21, 22, 23, 24, 25] (by decide) rfl) (ci := 6) rfl hP (q0 := 0) rfl rfl hl.1 rfl (Nat.le_of_ble_eq_true rfl) d_Md_tell_168) hP hD hS hA [0, 1, 2, 3, 4, 5, 6, 7, 8, 9, 10, 11, 12, 13, 14, 15, 16, 17, 18, 19, 20, 21, 22, 23, 24, 25] [] rfl rfl (by decide) (by decide) (fun u20 H locs hw hP hD hS => ?_)
                have hP : va_P D kmC (mmdW cI cN cZ a1 u20) H := hP
                have hD : va_D A (mmdW cI cN cZ a1 u20) := hD
                refine lv_iload hx hb d_Md_tell_171 (lv_at hl 0 rfl) ?_
                refine lv_if_eq (tgt := 180) hx hb d_Md_tell_173 (by first | rfl | decide) (fun h21 => ?_) (fun h21 => ?_)
                · exact absurd h21 (by decide)
                · skip
                  refine lv_iconst (v := (1 : Int32)) hx hb d_Md_tell_176 (by decide) ?_
                  refine lv_goto (tgt := 181) hx hb d_Md_tell_177 (by first | rfl | decide) ?_
                  exact W.iret (v := (1 : Int32)) hx hb hr (fun t ht hW => ⟨⟨(1 : Int32), u20, rfl, hw, by rw [ht]; exact hP, hD⟩, hS.F ht⟩) hS.2.2 d_Md_tell_181
              · have hw := hw.1 h18
                refine lv_aload_n hx hb d_Md_tell_137 rfl (lv_at hl 3 rfl) ?_
                refine va_get (D := D) (ci := 6) (v := .ref (a1 8)) (C := R_Md) (T := F_Md) (N := 31) hx hb hts iw_Md hown hK.1 hP 0 rfl rfl 10 (by decide) (hts _ mw_437) (fun _ h => h) rfl d_Md_tell_138 ?_
                refine lv_iload_n hx hb d_Md_tell_141 rfl (lv_at hl 5 rfl) ?_
                obtain ⟨hin, hw⟩ := hw
                refine va_iald (f := (mmd_executed u16)) hx hb hK.1 hP 8 0 rfl rfl hin d_Md_tell_142 ?_
                refine lv_iload hx hb d_Md_tell_143 (lv_at hl 1 rfl) ?_
                refine lv_icmp_ne (tgt := 159) hx hb d_Md_tell_145 (by first | rfl | decide) (fun h22 => ?_) (fun h22 => ?_)
                · have hw := hw.2 h22
                  refine lv_iconst (v := (1 : Int32)) hx hb d_Md_tell_159 (by decide) ?_
                  refine lv_goto (tgt := 164) hx hb d_Md_tell_160 (by first | rfl | decide) ?_
                  refine lv_istore (lv' := [(6, .int (1 : Int32)), (5, .int v14), (4, .int v13), (3, .int v12), (0, .ref (a1 0)), (1, .int x1), (2, .int x2)]) hx hb d_Md_tell_164 hl (by decide) rfl (fun ls hl => ?_)
                  refine lv_aload_n hx hb d_Md_tell_166 rfl (lv_at hl 4 rfl) ?_
                  refine lv_iload_n hx hb d_Md_tell_167 rfl (lv_at hl 6 rfl) ?_
                  refine km_cv (wr := []) (km_rV (n := 1) hE kmG (c_Md_goOn l D cI cN cZ a1 u16 x2 _ hw) mw_608 mw_605 mw_607 mp_42 mw_8 (by decide) ⟨rfl, rfl, ⟨by decide, by decide⟩, by decide, by decide⟩ hK (km_cut hP [0, 1, 2, 3, 4, 5, 6, 7, 8, 9, 10, 11, 12, 13, 14, 15, 16, 17, 18, 19, 20, 21, 22, 23, 24, 25] rfl) (hD.sub [0, 1, 2, 3, 4, 5, 6, 7, 8, 9, 10, 11, 12, 13, 14, 15, 16, 17, 18, 19, 20, 21, 22, 23, 24, 25] (by decide) rfl) (ci := 6) rfl hP (q0 := 0) rfl rfl hl.1 rfl (Nat.le_of_ble_eq_true rfl) d_Md_tell_168) hP hD hS hA [0, 1, 2, 3, 4, 5, 6, 7, 8, 9, 10, 11, 12, 13, 14, 15, 16, 17, 18, 19, 20, 21, 22, 23, 24, 25] [] rfl rfl (by decide) (by decide) (fun u24 H locs hw hP hD hS => ?_)
                  have hP : va_P D kmC (mmdW cI cN cZ a1 u24) H := hP
                  have hD : va_D A (mmdW cI cN cZ a1 u24) := hD
                  refine lv_iload hx hb d_Md_tell_171 (lv_at hl 0 rfl) ?_
                  refine lv_if_eq (tgt := 180) hx hb d_Md_tell_173 (by first | rfl | decide) (fun h25 => ?_) (fun h25 => ?_)
                  · exact absurd h25 (by decide)
                  · skip
                    refine lv_iconst (v := (1 : Int32)) hx hb d_Md_tell_176 (by decide) ?_
                    refine lv_goto (tgt := 181) hx hb d_Md_tell_177 (by first | rfl | decide) ?_
                    exact W.iret (v := (1 : Int32)) hx hb hr (fun t ht hW => ⟨⟨(1 : Int32), u24, rfl, hw, by rw [ht]; exact hP, hD⟩, hS.F ht⟩) hS.2.2 d_Md_tell_181
                · have hw := hw.1 h22
                  refine lv_aload_n hx hb d_Md_tell_148 rfl (lv_at hl 3 rfl) ?_
                  refine va_get (D := D) (ci := 6) (v := .ref (a1 9)) (C := R_Md) (T := F_Md) (N := 31) hx hb hts iw_Md hown hK.1 hP 0 rfl rfl 11 (by decide) (hts _ mw_438) (fun _ h => h) rfl d_Md_tell_149 ?_
                  refine lv_iload_n hx hb d_Md_tell_152 rfl (lv_at hl 5 rfl) ?_
                  obtain ⟨hin, hw⟩ := hw
                  refine va_iald (f := (mmd_known u16)) hx hb hK.1 hP 9 0 rfl rfl hin d_Md_tell_153 ?_
                  refine lv_iload hx hb d_Md_tell_154 (lv_at hl 0 rfl) ?_
                  refine lv_icmp_eq (tgt := 163) hx hb d_Md_tell_156 (by first | rfl | decide) (fun h26 => ?_) (fun h26 => ?_)
                  · have hw := hw.1 h26
                    refine lv_iconst (v := (0 : Int32)) hx hb d_Md_tell_163 (by decide) ?_
                    refine lv_istore (lv' := [(6, .int (0 : Int32)), (5, .int v14), (4, .int v13), (3, .int v12), (0, .ref (a1 0)), (1, .int x1), (2, .int x2)]) hx hb d_Md_tell_164 hl (by decide) rfl (fun ls hl => ?_)
                    refine lv_aload_n hx hb d_Md_tell_166 rfl (lv_at hl 4 rfl) ?_
                    refine lv_iload_n hx hb d_Md_tell_167 rfl (lv_at hl 6 rfl) ?_
                    refine km_cv (wr := []) (km_rV (n := 1) hE kmG (c_Md_goOn l D cI cN cZ a1 u16 x2 _ hw) mw_608 mw_605 mw_607 mp_42 mw_8 (by decide) ⟨rfl, rfl, ⟨by decide, by decide⟩, by decide, by decide⟩ hK (km_cut hP [0, 1, 2, 3, 4, 5, 6, 7, 8, 9, 10, 11, 12, 13, 14, 15, 16, 17, 18, 19, 20, 21, 22, 23, 24, 25] rfl) (hD.sub [0, 1, 2, 3, 4, 5, 6, 7, 8, 9, 10, 11, 12, 13, 14, 15, 16, 17, 18, 19, 20, 21, 22, 23, 24, 25] (by decide) rfl) (ci := 6) rfl hP (q0 := 0) rfl rfl hl.1 rfl (Nat.le_of_ble_eq_true rfl) d_Md_tell_168) hP hD hS hA [0, 1, 2, 3, 4, 5, 6, 7, 8, 9, 10, 11, 12, 13, 14, 15, 16, 17, 18, 19, 20, 21, 22, 23, 24, 25] [] rfl rfl (by decide) (by decide) (fun u28 H locs hw hP hD hS => ?_)
                    have hP : va_P D kmC (mmdW cI cN cZ a1 u28) H := hP
                    have hD : va_D A (mmdW cI cN cZ a1 u28) := hD
                    refine lv_iload hx hb d_Md_tell_171 (lv_at hl 0 rfl) ?_
                    refine lv_if_eq (tgt := 180) hx hb d_Md_tell_173 (by first | rfl | decide) (fun h29 => ?_) (fun h29 => ?_)
                    · skip
                      refine lv_iconst (v := (3 : Int32)) hx hb d_Md_tell_180 (by decide) ?_
                      exact W.iret (v := (3 : Int32)) hx hb hr (fun t ht hW => ⟨⟨(3 : Int32), u28, rfl, hw, by rw [ht]; exact hP, hD⟩, hS.F ht⟩) hS.2.2 d_Md_tell_181
                    · exact absurd h29 (by decide)
                  · have hw := hw.2 h26
                    refine lv_iconst (v := (1 : Int32)) hx hb d_Md_tell_159 (by decide) ?_
                    refine lv_goto (tgt := 164) hx hb d_Md_tell_160 (by first | rfl | decide) ?_
                    refine lv_istore (lv' := [(6, .int (1 : Int32)), (5, .int v14), (4, .int v13), (3, .int v12), (0, .ref (a1 0)), (1, .int x1), (2, .int x2)]) hx hb d_Md_tell_164 hl (by decide) rfl (fun ls hl => ?_)
                    refine lv_aload_n hx hb d_Md_tell_166 rfl (lv_at hl 4 rfl) ?_
                    refine lv_iload_n hx hb d_Md_tell_167 rfl (lv_at hl 6 rfl) ?_
                    refine km_cv (wr := []) (km_rV (n := 1) hE kmG (c_Md_goOn l D cI cN cZ a1 u16 x2 _ hw) mw_608 mw_605 mw_607 mp_42 mw_8 (by decide) ⟨rfl, rfl, ⟨by decide, by decide⟩, by decide, by decide⟩ hK (km_cut hP [0, 1, 2, 3, 4, 5, 6, 7, 8, 9, 10, 11, 12, 13, 14, 15, 16, 17, 18, 19, 20, 21, 22, 23, 24, 25] rfl) (hD.sub [0, 1, 2, 3, 4, 5, 6, 7, 8, 9, 10, 11, 12, 13, 14, 15, 16, 17, 18, 19, 20, 21, 22, 23, 24, 25] (by decide) rfl) (ci := 6) rfl hP (q0 := 0) rfl rfl hl.1 rfl (Nat.le_of_ble_eq_true rfl) d_Md_tell_168) hP hD hS hA [0, 1, 2, 3, 4, 5, 6, 7, 8, 9, 10, 11, 12, 13, 14, 15, 16, 17, 18, 19, 20, 21, 22, 23, 24, 25] [] rfl rfl (by decide) (by decide) (fun u31 H locs hw hP hD hS => ?_)
                    have hP : va_P D kmC (mmdW cI cN cZ a1 u31) H := hP
                    have hD : va_D A (mmdW cI cN cZ a1 u31) := hD
                    refine lv_iload hx hb d_Md_tell_171 (lv_at hl 0 rfl) ?_
                    refine lv_if_eq (tgt := 180) hx hb d_Md_tell_173 (by first | rfl | decide) (fun h32 => ?_) (fun h32 => ?_)
                    · exact absurd h32 (by decide)
                    · skip
                      refine lv_iconst (v := (1 : Int32)) hx hb d_Md_tell_176 (by decide) ?_
                      refine lv_goto (tgt := 181) hx hb d_Md_tell_177 (by first | rfl | decide) ?_
                      exact W.iret (v := (1 : Int32)) hx hb hr (fun t ht hW => ⟨⟨(1 : Int32), u31, rfl, hw, by rw [ht]; exact hP, hD⟩, hS.F ht⟩) hS.2.2 d_Md_tell_181
            · have hw := hw.1 h17
              refine lv_aload_n hx hb d_Md_tell_84 rfl (lv_at hl 3 rfl) ?_
              refine va_get (D := D) (ci := 6) (v := .ref (a1 8)) (C := R_Md) (T := F_Md) (N := 31) hx hb hts iw_Md hown hK.1 hP 0 rfl rfl 10 (by decide) (hts _ mw_437) (fun _ h => h) rfl d_Md_tell_85 ?_
              refine lv_iload_n hx hb d_Md_tell_88 rfl (lv_at hl 5 rfl) ?_
              obtain ⟨hin, hw⟩ := hw
              refine va_iald (f := (mmd_executed u16)) hx hb hK.1 hP 8 0 rfl rfl hin d_Md_tell_89 ?_
              refine lv_iconst (v := (1 : Int32)) hx hb d_Md_tell_90 (by decide) ?_
              refine lv_iadd hx hb d_Md_tell_91 ?_
              refine lv_topi (fun v33 ev33 => ?_)
              have hw := hw v33 ev33
              refine lv_istore (lv' := [(6, .int v33), (5, .int v14), (4, .int v13), (3, .int v12), (0, .ref (a1 0)), (1, .int x1), (2, .int x2)]) hx hb d_Md_tell_92 hl (by decide) rfl (fun ls hl => ?_)
              have key94 : ∀ (K94 : Int32 → Int32 → Int32 → Int32 → Int32 → Int32 → MmdT → Prop) (hk94 : ∀ (y1 : Int32) (y2 : Int32) (y3 : Int32) (y4 : Int32) (y5 : Int32) (y6 : Int32) (z1 : MmdT) (ls : Array Slot) (H : Heap) (locs : List Loc), K94 y1 y2 y3 y4 y5 y6 z1 → lv_has ls 7 [(1, .int y1), (2, .int y2), (3, .int y3), (4, .int y4), (5, .int y5), (6, .int y6), (0, .ref (a1 0))] → va_P D kmC (mmdW cI cN cZ a1 z1) H → va_D A (mmdW cI cN cZ a1 z1) → va_S A s.heap H locs → W p l e rm_Md_tell s m ([.ref (a1 0), .int x1, .int x2] : List Value).toArray below meth c H locs 0 0 (MQ below (va_Qi (fun (r : Int32) (u : MmdT) => post r u) (km_B D kmC A (fun (u : MmdT) => (mmdW cI cN cZ a1 u))) A) ([.ref (a1 0), .int x1, .int x2] : List Value).toArray s 0 0 A) (F0 m 127 ls [])) (n94 : Nat), ∀ (y1 : Int32) (y2 : Int32) (y3 : Int32) (y4 : Int32) (y5 : Int32) (y6 : Int32) (z1 : MmdT) (ls : Array Slot) (H : Heap) (locs : List Loc), wp_Md_tell_L94 K94 n94 y1 y2 y3 y4 y5 y6 z1 → lv_has ls 7 [(1, .int y1), (2, .int y2), (3, .int y3), (4, .int y4), (5, .int y5), (6, .int y6), (0, .ref (a1 0))] → va_P D kmC (mmdW cI cN cZ a1 z1) H → va_D A (mmdW cI cN cZ a1 z1) → va_S A s.heap H locs → W p l e rm_Md_tell s m ([.ref (a1 0), .int x1, .int x2] : List Value).toArray below meth c H locs 0 0 (MQ below (va_Qi (fun (r : Int32) (u : MmdT) => post r u) (km_B D kmC A (fun (u : MmdT) => (mmdW cI cN cZ a1 u))) A) ([.ref (a1 0), .int x1, .int x2] : List Value).toArray s 0 0 A) (F0 m 94 ls []) := by
                intro K94 hk94 n94
                induction n94 with
                | zero => intro y1 y2 y3 y4 y5 y6 z1 ls H locs hw; exact hw.elim
                | succ n94 ih94 =>
                  intro y1 y2 y3 y4 y5 y6 z1 ls H locs hw hl hP hD hS
                  refine lv_iload hx hb d_Md_tell_94 (lv_at hl 5 rfl) ?_
                  refine lv_bipush (v := (8 : Int32)) hx hb d_Md_tell_96 (by decide) ?_
                  refine lv_icmp_gt (tgt := 127) hx hb d_Md_tell_98 (by first | rfl | decide) (fun h34 => ?_) (fun h34 => ?_)
                  · have hw := hw.1 h34
                    exact hk94 y1 y2 y3 y4 y5 y6 z1 ls H locs hw (lv_sub hl [0, 1, 2, 3, 4, 5, 6] rfl) hP hD hS
                  · have hw := hw.2 h34
                    refine lv_aload_n hx hb d_Md_tell_101 rfl (lv_at hl 6 rfl) ?_
                    refine va_get (D := D) (ci := 6) (v := .ref (a1 9)) (C := R_Md) (T := F_Md) (N := 31) hx hb hts iw_Md hown hK.1 hP 0 rfl rfl 11 (by decide) (hts _ mw_438) (fun _ h => h) rfl d_Md_tell_102 ?_
                    refine lv_iload_n hx hb d_Md_tell_105 rfl (lv_at hl 1 rfl) ?_
                    refine lv_dup2_11 hx hb d_Md_tell_106 rfl rfl ?_
                    obtain ⟨hin, hw⟩ := hw
                    refine va_iald (f := (mmd_known z1)) hx hb hK.1 hP 9 0 rfl rfl hin d_Md_tell_107 ?_
                    refine lv_aload_n hx hb d_Md_tell_108 rfl (lv_at hl 6 rfl) ?_
                    refine va_get (D := D) (ci := 6) (v := .ref (a1 9)) (C := R_Md) (T := F_Md) (N := 31) hx hb hts iw_Md hown hK.1 hP 0 rfl rfl 11 (by decide) (hts _ mw_438) (fun _ h => h) rfl d_Md_tell_109 ?_
                    refine lv_iload_n hx hb d_Md_tell_112 rfl (lv_at hl 0 rfl) ?_
                    obtain ⟨hin, hw⟩ := hw
                    refine va_iald (f := (mmd_known z1)) hx hb hK.1 hP 9 0 rfl rfl hin d_Md_tell_113 ?_
                    refine lv_iconst (v := (1 : Int32)) hx hb d_Md_tell_114 (by decide) ?_
                    refine lv_iload hx hb d_Md_tell_115 (lv_at hl 5 rfl) ?_
                    refine lv_ishl hx hb d_Md_tell_117 ?_
                    refine lv_iand hx hb d_Md_tell_118 ?_
                    refine lv_ior hx hb d_Md_tell_119 ?_
                    obtain ⟨hin, hw⟩ := hw
                    refine va_iast (f := (mmd_known z1)) hx hb hK.1 hP hD hS 9 0 rfl rfl hin d_Md_tell_120 (fun H locs hP hD hS => ?_)
                    have hP := (congrArg (fun w => va_P D kmC w H) (sw_mmd_s_known cI cN cZ a1 z1 (upd (mmd_known z1) (y2).toNatClampNeg (((mmd_known z1) (y2).toNatClampNeg) ||| (((mmd_known z1) (y1).toNatClampNeg) &&& ((1 : Int32) <<< (y6 &&& 31))))))).mp hP
                    have hD := (congrArg (va_D A) (sw_mmd_s_known cI cN cZ a1 z1 (upd (mmd_known z1) (y2).toNatClampNeg (((mmd_known z1) (y2).toNatClampNeg) ||| (((mmd_known z1) (y1).toNatClampNeg) &&& ((1 : Int32) <<< (y6 &&& 31))))))).mp hD
                    obtain ⟨w35, ew35⟩ : ∃ z : MmdT, z = mmd_s_known z1 (upd (mmd_known z1) (y2).toNatClampNeg (((mmd_known z1) (y2).toNatClampNeg) ||| (((mmd_known z1) (y1).toNatClampNeg) &&& ((1 : Int32) <<< (y6 &&& 31))))) := ⟨_, rfl⟩
                    rw [← ew35] at hP hD
                    have hw := hw w35 ew35
                    obtain ⟨v36, ev36⟩ : ∃ z : Int32, z = (y6 + (1 : Int32)) := ⟨_, rfl⟩
                    have hw := hw v36 ev36
                    refine lv_iinc (v := v36) (lv' := [(6, .int v36), (1, .int y1), (2, .int y2), (3, .int y3), (4, .int y4), (5, .int y5), (0, .ref (a1 0))]) hx hb d_Md_tell_121 hl (k := 5) rfl ev36.symm (by decide) rfl (fun ls hl => ?_)
                    refine lv_goto (tgt := 94) hx hb d_Md_tell_124 (by first | rfl | decide) ?_
                    exact ih94 y1 y2 y3 y4 y5 v36 w35 ls H locs hw (lv_sub hl [1, 2, 3, 4, 5, 0, 6] rfl) hP hD hS
              obtain ⟨n94, hw⟩ := hw
              refine key94 _ (fun y1 y2 y3 y4 y5 y6 z1 ls H locs hw hl hP hD hS => ?_) n94 x1 x2 v12 v13 v14 v33 u16 ls H locs hw (lv_sub hl [5, 6, 3, 2, 1, 0, 4] rfl) hP hD hS
              refine lv_aload_n hx hb d_Md_tell_127 rfl (lv_at hl 6 rfl) ?_
              refine va_get (D := D) (ci := 6) (v := .ref (a1 7)) (C := R_Md) (T := F_Md) (N := 31) hx hb hts iw_Md hown hK.1 hP 0 rfl rfl 9 (by decide) (hts _ mw_436) (fun _ h => h) rfl d_Md_tell_128 ?_
              refine lv_iload_n hx hb d_Md_tell_131 rfl (lv_at hl 1 rfl) ?_
              obtain ⟨hin, hw⟩ := hw
              refine va_iald (f := (mmd_configuration z1)) hx hb hK.1 hP 7 0 rfl rfl hin d_Md_tell_132 ?_
              refine lv_iload_n hx hb d_Md_tell_133 rfl (lv_at hl 2 rfl) ?_
              refine lv_icmp_ne (tgt := 159) hx hb d_Md_tell_134 (by first | rfl | decide) (fun h37 => ?_) (fun h37 => ?_)
              · have hw := hw.2 h37
                refine lv_iconst (v := (1 : Int32)) hx hb d_Md_tell_159 (by decide) ?_
                refine lv_goto (tgt := 164) hx hb d_Md_tell_160 (by first | rfl | decide) ?_
                refine lv_istore (lv' := [(6, .int (1 : Int32)), (1, .int y1), (2, .int y2), (3, .int y3), (4, .int y4), (5, .int y5), (0, .ref (a1 0))]) hx hb d_Md_tell_164 hl (by decide) rfl (fun ls hl => ?_)
                refine lv_aload_n hx hb d_Md_tell_166 rfl (lv_at hl 6 rfl) ?_
                refine lv_iload_n hx hb d_Md_tell_167 rfl (lv_at hl 2 rfl) ?_
                refine km_cv (wr := []) (km_rV (n := 1) hE kmG (c_Md_goOn l D cI cN cZ a1 z1 y2 _ hw) mw_608 mw_605 mw_607 mp_42 mw_8 (by decide) ⟨rfl, rfl, ⟨by decide, by decide⟩, by decide, by decide⟩ hK (km_cut hP [0, 1, 2, 3, 4, 5, 6, 7, 8, 9, 10, 11, 12, 13, 14, 15, 16, 17, 18, 19, 20, 21, 22, 23, 24, 25] rfl) (hD.sub [0, 1, 2, 3, 4, 5, 6, 7, 8, 9, 10, 11, 12, 13, 14, 15, 16, 17, 18, 19, 20, 21, 22, 23, 24, 25] (by decide) rfl) (ci := 6) rfl hP (q0 := 0) rfl rfl hl.1 rfl (Nat.le_of_ble_eq_true rfl) d_Md_tell_168) hP hD hS hA [0, 1, 2, 3, 4, 5, 6, 7, 8, 9, 10, 11, 12, 13, 14, 15, 16, 17, 18, 19, 20, 21, 22, 23, 24, 25] [] rfl rfl (by decide) (by decide) (fun u39 H locs hw hP hD hS => ?_)
                have hP : va_P D kmC (mmdW cI cN cZ a1 u39) H := hP
                have hD : va_D A (mmdW cI cN cZ a1 u39) := hD
                refine lv_iload hx hb d_Md_tell_171 (lv_at hl 0 rfl) ?_
                refine lv_if_eq (tgt := 180) hx hb d_Md_tell_173 (by first | rfl | decide) (fun h40 => ?_) (fun h40 => ?_)
                · exact absurd h40 (by decide)
                · skip
                  refine lv_iconst (v := (1 : Int32)) hx hb d_Md_tell_176 (by decide) ?_
                  refine lv_goto (tgt := 181) hx hb d_Md_tell_177 (by first | rfl | decide) ?_
                  exact W.iret (v := (1 : Int32)) hx hb hr (fun t ht hW => ⟨⟨(1 : Int32), u39, rfl, hw, by rw [ht]; exact hP, hD⟩, hS.F ht⟩) hS.2.2 d_Md_tell_181
              · have hw := hw.1 h37
                refine lv_aload_n hx hb d_Md_tell_137 rfl (lv_at hl 6 rfl) ?_
                refine va_get (D := D) (ci := 6) (v := .ref (a1 8)) (C := R_Md) (T := F_Md) (N := 31) hx hb hts iw_Md hown hK.1 hP 0 rfl rfl 10 (by decide) (hts _ mw_437) (fun _ h => h) rfl d_Md_tell_138 ?_
                refine lv_iload_n hx hb d_Md_tell_141 rfl (lv_at hl 1 rfl) ?_
                obtain ⟨hin, hw⟩ := hw
                refine va_iald (f := (mmd_executed z1)) hx hb hK.1 hP 8 0 rfl rfl hin d_Md_tell_142 ?_
                refine lv_iload hx hb d_Md_tell_143 (lv_at hl 3 rfl) ?_
                refine lv_icmp_ne (tgt := 159) hx hb d_Md_tell_145 (by first | rfl | decide) (fun h41 => ?_) (fun h41 => ?_)
                · have hw := hw.2 h41
                  refine lv_iconst (v := (1 : Int32)) hx hb d_Md_tell_159 (by decide) ?_
                  refine lv_goto (tgt := 164) hx hb d_Md_tell_160 (by first | rfl | decide) ?_
                  refine lv_istore (lv' := [(6, .int (1 : Int32)), (1, .int y1), (2, .int y2), (3, .int y3), (4, .int y4), (5, .int y5), (0, .ref (a1 0))]) hx hb d_Md_tell_164 hl (by decide) rfl (fun ls hl => ?_)
                  refine lv_aload_n hx hb d_Md_tell_166 rfl (lv_at hl 6 rfl) ?_
                  refine lv_iload_n hx hb d_Md_tell_167 rfl (lv_at hl 2 rfl) ?_
                  refine km_cv (wr := []) (km_rV (n := 1) hE kmG (c_Md_goOn l D cI cN cZ a1 z1 y2 _ hw) mw_608 mw_605 mw_607 mp_42 mw_8 (by decide) ⟨rfl, rfl, ⟨by decide, by decide⟩, by decide, by decide⟩ hK (km_cut hP [0, 1, 2, 3, 4, 5, 6, 7, 8, 9, 10, 11, 12, 13, 14, 15, 16, 17, 18, 19, 20, 21, 22, 23, 24, 25] rfl) (hD.sub [0, 1, 2, 3, 4, 5, 6, 7, 8, 9, 10, 11, 12, 13, 14, 15, 16, 17, 18, 19, 20, 21, 22, 23, 24, 25] (by decide) rfl) (ci := 6) rfl hP (q0 := 0) rfl rfl hl.1 rfl (Nat.le_of_ble_eq_true rfl) d_Md_tell_168) hP hD hS hA [0, 1, 2, 3, 4, 5, 6, 7, 8, 9, 10, 11, 12, 13, 14, 15, 16, 17, 18, 19, 20, 21, 22, 23, 24, 25] [] rfl rfl (by decide) (by decide) (fun u43 H locs hw hP hD hS => ?_)
                  have hP : va_P D kmC (mmdW cI cN cZ a1 u43) H := hP
                  have hD : va_D A (mmdW cI cN cZ a1 u43) := hD
                  refine lv_iload hx hb d_Md_tell_171 (lv_at hl 0 rfl) ?_
                  refine lv_if_eq (tgt := 180) hx hb d_Md_tell_173 (by first | rfl | decide) (fun h44 => ?_) (fun h44 => ?_)
                  · exact absurd h44 (by decide)
                  · skip
                    refine lv_iconst (v := (1 : Int32)) hx hb d_Md_tell_176 (by decide) ?_
                    refine lv_goto (tgt := 181) hx hb d_Md_tell_177 (by first | rfl | decide) ?_
                    exact W.iret (v := (1 : Int32)) hx hb hr (fun t ht hW => ⟨⟨(1 : Int32), u43, rfl, hw, by rw [ht]; exact hP, hD⟩, hS.F ht⟩) hS.2.2 d_Md_tell_181
                · have hw := hw.1 h41
                  refine lv_aload_n hx hb d_Md_tell_148 rfl (lv_at hl 6 rfl) ?_
                  refine va_get (D := D) (ci := 6) (v := .ref (a1 9)) (C := R_Md) (T := F_Md) (N := 31) hx hb hts iw_Md hown hK.1 hP 0 rfl rfl 11 (by decide) (hts _ mw_438) (fun _ h => h) rfl d_Md_tell_149 ?_
                  refine lv_iload_n hx hb d_Md_tell_152 rfl (lv_at hl 1 rfl) ?_
                  obtain ⟨hin, hw⟩ := hw
                  refine va_iald (f := (mmd_known z1)) hx hb hK.1 hP 9 0 rfl rfl hin d_Md_tell_153 ?_
                  refine lv_iload hx hb d_Md_tell_154 (lv_at hl 4 rfl) ?_
                  refine lv_icmp_eq (tgt := 163) hx hb d_Md_tell_156 (by first | rfl | decide) (fun h45 => ?_) (fun h45 => ?_)
                  · have hw := hw.1 h45
                    refine lv_iconst (v := (0 : Int32)) hx hb d_Md_tell_163 (by decide) ?_
                    refine lv_istore (lv' := [(6, .int (0 : Int32)), (1, .int y1), (2, .int y2), (3, .int y3), (4, .int y4), (5, .int y5), (0, .ref (a1 0))]) hx hb d_Md_tell_164 hl (by decide) rfl (fun ls hl => ?_)
                    refine lv_aload_n hx hb d_Md_tell_166 rfl (lv_at hl 6 rfl) ?_
                    refine lv_iload_n hx hb d_Md_tell_167 rfl (lv_at hl 2 rfl) ?_
                    refine km_cv (wr := []) (km_rV (n := 1) hE kmG (c_Md_goOn l D cI cN cZ a1 z1 y2 _ hw) mw_608 mw_605 mw_607 mp_42 mw_8 (by decide) ⟨rfl, rfl, ⟨by decide, by decide⟩, by decide, by decide⟩ hK (km_cut hP [0, 1, 2, 3, 4, 5, 6, 7, 8, 9, 10, 11, 12, 13, 14, 15, 16, 17, 18, 19, 20, 21, 22, 23, 24, 25] rfl) (hD.sub [0, 1, 2, 3, 4, 5, 6, 7, 8, 9, 10, 11, 12, 13, 14, 15, 16, 17, 18, 19, 20, 21, 22, 23, 24, 25] (by decide) rfl) (ci := 6) rfl hP (q0 := 0) rfl rfl hl.1 rfl (Nat.le_of_ble_eq_true rfl) d_Md_tell_168) hP hD hS hA [0, 1, 2, 3, 4, 5, 6, 7, 8, 9, 10, 11, 12, 13, 14, 15, 16, 17, 18, 19, 20, 21, 22, 23, 24, 25] [] rfl rfl (by decide) (by decide) (fun u47 H locs hw hP hD hS => ?_)
                    have hP : va_P D kmC (mmdW cI cN cZ a1 u47) H := hP
                    have hD : va_D A (mmdW cI cN cZ a1 u47) := hD
                    refine lv_iload hx hb d_Md_tell_171 (lv_at hl 0 rfl) ?_
                    refine lv_if_eq (tgt := 180) hx hb d_Md_tell_173 (by first | rfl | decide) (fun h48 => ?_) (fun h48 => ?_)
                    · skip
                      refine lv_iconst (v := (3 : Int32)) hx hb d_Md_tell_180 (by decide) ?_
                      exact W.iret (v := (3 : Int32)) hx hb hr (fun t ht hW => ⟨⟨(3 : Int32), u47, rfl, hw, by rw [ht]; exact hP, hD⟩, hS.F ht⟩) hS.2.2 d_Md_tell_181
                    · exact absurd h48 (by decide)
                  · have hw := hw.2 h45
                    refine lv_iconst (v := (1 : Int32)) hx hb d_Md_tell_159 (by decide) ?_
                    refine lv_goto (tgt := 164) hx hb d_Md_tell_160 (by first | rfl | decide) ?_
                    refine lv_istore (lv' := [(6, .int (1 : Int32)), (1, .int y1), (2, .int y2), (3, .int y3), (4, .int y4), (5, .int y5), (0, .ref (a1 0))]) hx hb d_Md_tell_164 hl (by decide) rfl (fun ls hl => ?_)
                    refine lv_aload_n hx hb d_Md_tell_166 rfl (lv_at hl 6 rfl) ?_
                    refine lv_iload_n hx hb d_Md_tell_167 rfl (lv_at hl 2 rfl) ?_
                    refine km_cv (wr := []) (km_rV (n := 1) hE kmG (c_Md_goOn l D cI cN cZ a1 z1 y2 _ hw) mw_608 mw_605 mw_607 mp_42 mw_8 (by decide) ⟨rfl, rfl, ⟨by decide, by decide⟩, by decide, by decide⟩ hK (km_cut hP [0, 1, 2, 3, 4, 5, 6, 7, 8, 9, 10, 11, 12, 13, 14, 15, 16, 17, 18, 19, 20, 21, 22, 23, 24, 25] rfl) (hD.sub [0, 1, 2, 3, 4, 5, 6, 7, 8, 9, 10, 11, 12, 13, 14, 15, 16, 17, 18, 19, 20, 21, 22, 23, 24, 25] (by decide) rfl) (ci := 6) rfl hP (q0 := 0) rfl rfl hl.1 rfl (Nat.le_of_ble_eq_true rfl) d_Md_tell_168) hP hD hS hA [0, 1, 2, 3, 4, 5, 6, 7, 8, 9, 10, 11, 12, 13, 14, 15, 16, 17, 18, 19, 20, 21, 22, 23, 24, 25] [] rfl rfl (by decide) (by decide) (fun u50 H locs hw hP hD hS => ?_)
                    have hP : va_P D kmC (mmdW cI cN cZ a1 u50) H := hP
                    have hD : va_D A (mmdW cI cN cZ a1 u50) := hD
                    refine lv_iload hx hb d_Md_tell_171 (lv_at hl 0 rfl) ?_
                    refine lv_if_eq (tgt := 180) hx hb d_Md_tell_173 (by first | rfl | decide) (fun h51 => ?_) (fun h51 => ?_)
                    · exact absurd h51 (by decide)
                    · skip
                      refine lv_iconst (v := (1 : Int32)) hx hb d_Md_tell_176 (by decide) ?_
                      refine lv_goto (tgt := 181) hx hb d_Md_tell_177 (by first | rfl | decide) ?_
                      exact W.iret (v := (1 : Int32)) hx hb hr (fun t ht hW => ⟨⟨(1 : Int32), u50, rfl, hw, by rw [ht]; exact hP, hD⟩, hS.F ht⟩) hS.2.2 d_Md_tell_181
          · have hw := hw.1 h11
            refine lv_bipush (v := (-2 : Int32)) hx hb d_Md_tell_37 (by decide) ?_
            exact W.iret (v := (-2 : Int32)) hx hb hr (fun t ht hW => ⟨⟨(-2 : Int32), u10, rfl, hw, by rw [ht]; exact hP, hD⟩, hS.F ht⟩) hS.2.2 d_Md_tell_39
      · have hw := hw.1 h5
        refine lv_iconst (v := (-1 : Int32)) hx hb d_Md_tell_19 (by decide) ?_
        exact W.iret (v := (-1 : Int32)) hx hb hr (fun t ht hW => ⟨⟨(-1 : Int32), z1, rfl, hw, by rw [ht]; exact hP, hD⟩, hS.F ht⟩) hS.2.2 d_Md_tell_20
