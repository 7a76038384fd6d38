theorem d_Ch_route_0 : decode b_Ch_route 0 = .ok (.aload_n 0, 1) := by decide +kernel
theorem d_Ch_route_1 : decode b_Ch_route 1 = .ok (.getfield 21, 3) := by decide +kernel
theorem d_Ch_route_4 : decode b_Ch_route 4 = .ok (.iload_n 1, 1) := by decide +kernel
theorem d_Ch_route_5 : decode b_Ch_route 5 = .ok (.invokevirtual 51, 3) := by decide +kernel
theorem d_Ch_route_8 : decode b_Ch_route 8 = .ok (.ifCond .eq 10, 3) := by decide +kernel
theorem d_Ch_route_11 : decode b_Ch_route 11 = .ok (.iload_n 2, 1) := by decide +kernel
theorem d_Ch_route_12 : decode b_Ch_route 12 = .ok (.invokestatic 54, 3) := by decide +kernel
theorem d_Ch_route_15 : decode b_Ch_route 15 = .ok (.ifCond .ne 5, 3) := by decide +kernel
theorem d_Ch_route_18 : decode b_Ch_route 18 = .ok (.iconst (-1), 1) := by decide +kernel
theorem d_Ch_route_19 : decode b_Ch_route 19 = .ok (.ireturn, 1) := by decide +kernel
theorem d_Ch_route_20 : decode b_Ch_route 20 = .ok (.aload_n 0, 1) := by decide +kernel
theorem d_Ch_route_21 : decode b_Ch_route 21 = .ok (.getfield 11, 3) := by decide +kernel
theorem d_Ch_route_24 : decode b_Ch_route 24 = .ok (.iload_n 2, 1) := by decide +kernel
theorem d_Ch_route_25 : decode b_Ch_route 25 = .ok (.aaload, 1) := by decide +kernel
theorem d_Ch_route_26 : decode b_Ch_route 26 = .ok (.astore_n 3, 1) := by decide +kernel
theorem d_Ch_route_27 : decode b_Ch_route 27 = .ok (.aload_n 3, 1) := by decide +kernel
theorem d_Ch_route_28 : decode b_Ch_route 28 = .ok (.getfield 57, 3) := by decide +kernel
theorem d_Ch_route_31 : decode b_Ch_route 31 = .ok (.ifCond .ne 5, 3) := by decide +kernel
theorem d_Ch_route_34 : decode b_Ch_route 34 = .ok (.iconst 0, 1) := by decide +kernel
theorem d_Ch_route_35 : decode b_Ch_route 35 = .ok (.ireturn, 1) := by decide +kernel
theorem d_Ch_route_36 : decode b_Ch_route 36 = .ok (.aload_n 3, 1) := by decide +kernel
theorem d_Ch_route_37 : decode b_Ch_route 37 = .ok (.getfield 61, 3) := by decide +kernel
theorem d_Ch_route_40 : decode b_Ch_route 40 = .ok (.astore 4, 2) := by decide +kernel
theorem d_Ch_route_42 : decode b_Ch_route 42 = .ok (.aload 4, 2) := by decide +kernel
theorem d_Ch_route_44 : decode b_Ch_route 44 = .ok (.getfield 65, 3) := by decide +kernel
theorem d_Ch_route_47 : decode b_Ch_route 47 = .ok (.aload_n 0, 1) := by decide +kernel
theorem d_Ch_route_48 : decode b_Ch_route 48 = .ok (.getfield 32, 3) := by decide +kernel
theorem d_Ch_route_51 : decode b_Ch_route 51 = .ok (.if_icmp .ge 5, 3) := by decide +kernel
theorem d_Ch_route_54 : decode b_Ch_route 54 = .ok (.iconst 4, 1) := by decide +kernel
theorem d_Ch_route_55 : decode b_Ch_route 55 = .ok (.ireturn, 1) := by decide +kernel
theorem d_Ch_route_56 : decode b_Ch_route 56 = .ok (.aload 4, 2) := by decide +kernel
theorem d_Ch_route_58 : decode b_Ch_route 58 = .ok (.getfield 65, 3) := by decide +kernel
theorem d_Ch_route_61 : decode b_Ch_route 61 = .ok (.aload_n 0, 1) := by decide +kernel
theorem d_Ch_route_62 : decode b_Ch_route 62 = .ok (.getfield 32, 3) := by decide +kernel
theorem d_Ch_route_65 : decode b_Ch_route 65 = .ok (.if_icmp .le 14, 3) := by decide +kernel
theorem d_Ch_route_68 : decode b_Ch_route 68 = .ok (.aload_n 0, 1) := by decide +kernel
theorem d_Ch_route_69 : decode b_Ch_route 69 = .ok (.aload 4, 2) := by decide +kernel
theorem d_Ch_route_71 : decode b_Ch_route 71 = .ok (.getfield 65, 3) := by decide +kernel
theorem d_Ch_route_74 : decode b_Ch_route 74 = .ok (.putfield 32, 3) := by decide +kernel
theorem d_Ch_route_77 : decode b_Ch_route 77 = .ok (.iconst 5, 1) := by decide +kernel
theorem d_Ch_route_78 : decode b_Ch_route 78 = .ok (.ireturn, 1) := by decide +kernel
theorem d_Ch_route_79 : decode b_Ch_route 79 = .ok (.aload 4, 2) := by decide +kernel
theorem d_Ch_route_81 : decode b_Ch_route 81 = .ok (.iload_n 1, 1) := by decide +kernel
theorem d_Ch_route_82 : decode b_Ch_route 82 = .ok (.invokevirtual 70, 3) := by decide +kernel
theorem d_Ch_route_85 : decode b_Ch_route 85 = .ok (.ifCond .eq 28, 3) := by decide +kernel
theorem d_Ch_route_88 : decode b_Ch_route 88 = .ok (.aload_n 0, 1) := by decide +kernel
theorem d_Ch_route_89 : decode b_Ch_route 89 = .ok (.getfield 25, 3) := by decide +kernel
theorem d_Ch_route_92 : decode b_Ch_route 92 = .ok (.iload_n 1, 1) := by decide +kernel
theorem d_Ch_route_93 : decode b_Ch_route 93 = .ok (.aload 4, 2) := by decide +kernel
theorem d_Ch_route_95 : decode b_Ch_route 95 = .ok (.getfield 73, 3) := by decide +kernel
theorem d_Ch_route_98 : decode b_Ch_route 98 = .ok (.iload_n 1, 1) := by decide +kernel
theorem d_Ch_route_99 : decode b_Ch_route 99 = .ok (.iaload, 1) := by decide +kernel
theorem d_Ch_route_100 : decode b_Ch_route 100 = .ok (.iastore, 1) := by decide +kernel
theorem d_Ch_route_101 : decode b_Ch_route 101 = .ok (.aload_n 0, 1) := by decide +kernel
theorem d_Ch_route_102 : decode b_Ch_route 102 = .ok (.getfield 29, 3) := by decide +kernel
theorem d_Ch_route_105 : decode b_Ch_route 105 = .ok (.iload_n 1, 1) := by decide +kernel
theorem d_Ch_route_106 : decode b_Ch_route 106 = .ok (.dup2, 1) := by decide +kernel
theorem d_Ch_route_107 : decode b_Ch_route 107 = .ok (.iaload, 1) := by decide +kernel
theorem d_Ch_route_108 : decode b_Ch_route 108 = .ok (.iconst 1, 1) := by decide +kernel
theorem d_Ch_route_109 : decode b_Ch_route 109 = .ok (.iadd, 1) := by decide +kernel
theorem d_Ch_route_110 : decode b_Ch_route 110 = .ok (.iastore, 1) := by decide +kernel
theorem d_Ch_route_111 : decode b_Ch_route 111 = .ok (.iconst 1, 1) := by decide +kernel
theorem d_Ch_route_112 : decode b_Ch_route 112 = .ok (.ireturn, 1) := by decide +kernel
theorem d_Ch_route_113 : decode b_Ch_route 113 = .ok (.aload 4, 2) := by decide +kernel
theorem d_Ch_route_115 : decode b_Ch_route 115 = .ok (.iload_n 2, 1) := by decide +kernel
theorem d_Ch_route_116 : decode b_Ch_route 116 = .ok (.invokevirtual 76, 3) := by decide +kernel
theorem d_Ch_route_119 : decode b_Ch_route 119 = .ok (.ifCond .ne 5, 3) := by decide +kernel
theorem d_Ch_route_122 : decode b_Ch_route 122 = .ok (.iconst 3, 1) := by decide +kernel
theorem d_Ch_route_123 : decode b_Ch_route 123 = .ok (.ireturn, 1) := by decide +kernel
theorem d_Ch_route_124 : decode b_Ch_route 124 = .ok (.aload_n 3, 1) := by decide +kernel
theorem d_Ch_route_125 : decode b_Ch_route 125 = .ok (.iload_n 1, 1) := by decide +kernel
theorem d_Ch_route_126 : decode b_Ch_route 126 = .ok (.putfield 79, 3) := by decide +kernel
theorem d_Ch_route_129 : decode b_Ch_route 129 = .ok (.iconst 2, 1) := by decide +kernel
theorem d_Ch_route_130 : decode b_Ch_route 130 = .ok (.ireturn, 1) := by decide +kernel
theorem d_Ch_start_0 : decode b_Ch_start 0 = .ok (.iload_n 1, 1) := by decide +kernel
theorem d_Ch_start_1 : decode b_Ch_start 1 = .ok (.invokestatic 54, 3) := by decide +kernel
theorem d_Ch_start_4 : decode b_Ch_start 4 = .ok (.ifCond .ne 5, 3) := by decide +kernel
theorem d_Ch_start_7 : decode b_Ch_start 7 = .ok (.iconst (-1), 1) := by decide +kernel
theorem d_Ch_start_8 : decode b_Ch_start 8 = .ok (.ireturn, 1) := by decide +kernel
theorem d_Ch_start_9 : decode b_Ch_start 9 = .ok (.aload_n 0, 1) := by decide +kernel
theorem d_Ch_start_10 : decode b_Ch_start 10 = .ok (.getfield 11, 3) := by decide +kernel
theorem d_Ch_start_13 : decode b_Ch_start 13 = .ok (.iload_n 1, 1) := by decide +kernel
theorem d_Ch_start_14 : decode b_Ch_start 14 = .ok (.aaload, 1) := by decide +kernel
theorem d_Ch_start_15 : decode b_Ch_start 15 = .ok (.astore_n 3, 1) := by decide +kernel
theorem d_Ch_start_16 : decode b_Ch_start 16 = .ok (.aload_n 3, 1) := by decide +kernel
theorem d_Ch_start_17 : decode b_Ch_start 17 = .ok (.getfield 57, 3) := by decide +kernel
theorem d_Ch_start_20 : decode b_Ch_start 20 = .ok (.ifCond .eq 11, 3) := by decide +kernel
theorem d_Ch_start_23 : decode b_Ch_start 23 = .ok (.aload_n 3, 1) := by decide +kernel
theorem d_Ch_start_24 : decode b_Ch_start 24 = .ok (.iload_n 2, 1) := by decide +kernel
theorem d_Ch_start_25 : decode b_Ch_start 25 = .ok (.invokevirtual 82, 3) := by decide +kernel
theorem d_Ch_start_28 : decode b_Ch_start 28 = .ok (.ifCond .ne 5, 3) := by decide +kernel
theorem d_Ch_start_31 : decode b_Ch_start 31 = .ok (.iconst 0, 1) := by decide +kernel
theorem d_Ch_start_32 : decode b_Ch_start 32 = .ok (.ireturn, 1) := by decide +kernel
theorem d_Ch_start_33 : decode b_Ch_start 33 = .ok (.aload_n 3, 1) := by decide +kernel
theorem d_Ch_start_34 : decode b_Ch_start 34 = .ok (.aload_n 3, 1) := by decide +kernel
theorem d_Ch_start_35 : decode b_Ch_start 35 = .ok (.invokevirtual 85, 3) := by decide +kernel
theorem d_Ch_start_38 : decode b_Ch_start 38 = .ok (.putfield 89, 3) := by decide +kernel
theorem d_Ch_start_41 : decode b_Ch_start 41 = .ok (.aload_n 3, 1) := by decide +kernel
theorem d_Ch_start_42 : decode b_Ch_start 42 = .ok (.getfield 92, 3) := by decide +kernel
theorem d_Ch_start_45 : decode b_Ch_start 45 = .ok (.iload_n 2, 1) := by decide +kernel
theorem d_Ch_start_46 : decode b_Ch_start 46 = .ok (.aload_n 3, 1) := by decide +kernel
theorem d_Ch_start_47 : decode b_Ch_start 47 = .ok (.getfield 89, 3) := by decide +kernel
theorem d_Ch_start_50 : decode b_Ch_start 50 = .ok (.invokevirtual 96, 3) := by decide +kernel
theorem d_Ch_start_53 : decode b_Ch_start 53 = .ok (.aload_n 3, 1) := by decide +kernel
theorem d_Ch_start_54 : decode b_Ch_start 54 = .ok (.getfield 89, 3) := by decide +kernel
theorem d_Ch_start_57 : decode b_Ch_start 57 = .ok (.ireturn, 1) := by decide +kernel
theorem d_Ch_crash_0 : decode b_Ch_crash 0 = .ok (.iload_n 1, 1) := by decide +kernel
theorem d_Ch_crash_1 : decode b_Ch_crash 1 = .ok (.invokestatic 54, 3) := by decide +kernel
theorem d_Ch_crash_4 : decode b_Ch_crash 4 = .ok (.ifCond .eq 15, 3) := by decide +kernel
theorem d_Ch_crash_7 : decode b_Ch_crash 7 = .ok (.aload_n 0, 1) := by decide +kernel
theorem d_Ch_crash_8 : decode b_Ch_crash 8 = .ok (.getfield 11, 3) := by decide +kernel
theorem d_Ch_crash_11 : decode b_Ch_crash 11 = .ok (.iload_n 1, 1) := by decide +kernel
theorem d_Ch_crash_12 : decode b_Ch_crash 12 = .ok (.aaload, 1) := by decide +kernel
theorem d_Ch_crash_13 : decode b_Ch_crash 13 = .ok (.getfield 57, 3) := by decide +kernel
theorem d_Ch_crash_16 : decode b_Ch_crash 16 = .ok (.ifCond .ne 5, 3) := by decide +kernel
theorem d_Ch_crash_19 : decode b_Ch_crash 19 = .ok (.iconst 0, 1) := by decide +kernel
theorem d_Ch_crash_20 : decode b_Ch_crash 20 = .ok (.ireturn, 1) := by decide +kernel
theorem d_Ch_crash_21 : decode b_Ch_crash 21 = .ok (.aload_n 0, 1) := by decide +kernel
theorem d_Ch_crash_22 : decode b_Ch_crash 22 = .ok (.getfield 11, 3) := by decide +kernel
theorem d_Ch_crash_25 : decode b_Ch_crash 25 = .ok (.iload_n 1, 1) := by decide +kernel
theorem d_Ch_crash_26 : decode b_Ch_crash 26 = .ok (.aaload, 1) := by decide +kernel
theorem d_Ch_crash_27 : decode b_Ch_crash 27 = .ok (.invokevirtual 169, 3) := by decide +kernel
theorem d_Ch_crash_30 : decode b_Ch_crash 30 = .ok (.iconst 1, 1) := by decide +kernel
theorem d_Ch_crash_31 : decode b_Ch_crash 31 = .ok (.ireturn, 1) := by decide +kernel
theorem d_Ch_restart_0 : decode b_Ch_restart 0 = .ok (.iload_n 1, 1) := by decide +kernel
theorem d_Ch_restart_1 : decode b_Ch_restart 1 = .ok (.invokestatic 54, 3) := by decide +kernel
theorem d_Ch_restart_4 : decode b_Ch_restart 4 = .ok (.ifCond .eq 15, 3) := by decide +kernel
theorem d_Ch_restart_7 : decode b_Ch_restart 7 = .ok (.aload_n 0, 1) := by decide +kernel
theorem d_Ch_restart_8 : decode b_Ch_restart 8 = .ok (.getfield 11, 3) := by decide +kernel
theorem d_Ch_restart_11 : decode b_Ch_restart 11 = .ok (.iload_n 1, 1) := by decide +kernel
theorem d_Ch_restart_12 : decode b_Ch_restart 12 = .ok (.aaload, 1) := by decide +kernel
theorem d_Ch_restart_13 : decode b_Ch_restart 13 = .ok (.getfield 57, 3) := by decide +kernel
theorem d_Ch_restart_16 : decode b_Ch_restart 16 = .ok (.ifCond .eq 5, 3) := by decide +kernel
theorem d_Ch_restart_19 : decode b_Ch_restart 19 = .ok (.iconst 0, 1) := by decide +kernel
theorem d_Ch_restart_20 : decode b_Ch_restart 20 = .ok (.ireturn, 1) := by decide +kernel
theorem d_Ch_restart_21 : decode b_Ch_restart 21 = .ok (.aload_n 0, 1) := by decide +kernel
theorem d_Ch_restart_22 : decode b_Ch_restart 22 = .ok (.getfield 11, 3) := by decide +kernel
theorem d_Ch_restart_25 : decode b_Ch_restart 25 = .ok (.iload_n 1, 1) := by decide +kernel
theorem d_Ch_restart_26 : decode b_Ch_restart 26 = .ok (.aaload, 1) := by decide +kernel
theorem d_Ch_restart_27 : decode b_Ch_restart 27 = .ok (.iconst 1, 1) := by decide +kernel
theorem d_Ch_restart_28 : decode b_Ch_restart 28 = .ok (.putfield 57, 3) := by decide +kernel
theorem d_Ch_restart_31 : decode b_Ch_restart 31 = .ok (.iconst 1, 1) := by decide +kernel
theorem d_Ch_restart_32 : decode b_Ch_restart 32 = .ok (.ireturn, 1) := by decide +kernel
theorem d_Ch_retire_0 : decode b_Ch_retire 0 = .ok (.iload_n 1, 1) := by decide +kernel
theorem d_Ch_retire_1 : decode b_Ch_retire 1 = .ok (.invokestatic 54, 3) := by decide +kernel
theorem d_Ch_retire_4 : decode b_Ch_retire 4 = .ok (.ifCond .ne 5, 3) := by decide +kernel
theorem d_Ch_retire_7 : decode b_Ch_retire 7 = .ok (.iconst (-1), 1) := by decide +kernel
theorem d_Ch_retire_8 : decode b_Ch_retire 8 = .ok (.ireturn, 1) := by decide +kernel
theorem d_Ch_retire_9 : decode b_Ch_retire 9 = .ok (.aload_n 0, 1) := by decide +kernel
theorem d_Ch_retire_10 : decode b_Ch_retire 10 = .ok (.getfield 11, 3) := by decide +kernel
theorem d_Ch_retire_13 : decode b_Ch_retire 13 = .ok (.iload_n 1, 1) := by decide +kernel
theorem d_Ch_retire_14 : decode b_Ch_retire 14 = .ok (.aaload, 1) := by decide +kernel
theorem d_Ch_retire_15 : decode b_Ch_retire 15 = .ok (.astore_n 2, 1) := by decide +kernel
theorem d_Ch_retire_16 : decode b_Ch_retire 16 = .ok (.aload_n 2, 1) := by decide +kernel
theorem d_Ch_retire_17 : decode b_Ch_retire 17 = .ok (.getfield 61, 3) := by decide +kernel
theorem d_Ch_retire_20 : decode b_Ch_retire 20 = .ok (.getfield 65, 3) := by decide +kernel
theorem d_Ch_retire_23 : decode b_Ch_retire 23 = .ok (.istore_n 3, 1) := by decide +kernel
theorem d_Ch_retire_24 : decode b_Ch_retire 24 = .ok (.aload_n 2, 1) := by decide +kernel
theorem d_Ch_retire_25 : decode b_Ch_retire 25 = .ok (.getfield 57, 3) := by decide +kernel
theorem d_Ch_retire_28 : decode b_Ch_retire 28 = .ok (.ifCond .eq 11, 3) := by decide +kernel
theorem d_Ch_retire_31 : decode b_Ch_retire 31 = .ok (.aload_n 2, 1) := by decide +kernel
theorem d_Ch_retire_32 : decode b_Ch_retire 32 = .ok (.getfield 172, 3) := by decide +kernel
theorem d_Ch_retire_35 : decode b_Ch_retire 35 = .ok (.iload_n 3, 1) := by decide +kernel
theorem d_Ch_retire_36 : decode b_Ch_retire 36 = .ok (.if_icmp .ne 5, 3) := by decide +kernel
theorem d_Ch_retire_39 : decode b_Ch_retire 39 = .ok (.iconst 0, 1) := by decide +kernel
theorem d_Ch_retire_40 : decode b_Ch_retire 40 = .ok (.ireturn, 1) := by decide +kernel
theorem d_Ch_retire_41 : decode b_Ch_retire 41 = .ok (.aload_n 2, 1) := by decide +kernel
theorem d_Ch_retire_42 : decode b_Ch_retire 42 = .ok (.iload_n 3, 1) := by decide +kernel
theorem d_Ch_retire_43 : decode b_Ch_retire 43 = .ok (.putfield 172, 3) := by decide +kernel
theorem d_Ch_retire_46 : decode b_Ch_retire 46 = .ok (.iconst 1, 1) := by decide +kernel
theorem d_Ch_retire_47 : decode b_Ch_retire 47 = .ok (.aload_n 2, 1) := by decide +kernel
theorem d_Ch_retire_48 : decode b_Ch_retire 48 = .ok (.getfield 118, 3) := by decide +kernel
theorem d_Ch_retire_51 : decode b_Ch_retire 51 = .ok (.iload_n 3, 1) := by decide +kernel
theorem d_Ch_retire_52 : decode b_Ch_retire 52 = .ok (.invokevirtual 175, 3) := by decide +kernel
theorem d_Ch_retire_55 : decode b_Ch_retire 55 = .ok (.iadd, 1) := by decide +kernel
theorem d_Ch_retire_56 : decode b_Ch_retire 56 = .ok (.ireturn, 1) := by decide +kernel
theorem d_Ch_look_0 : decode b_Ch_look 0 = .ok (.iload_n 1, 1) := by decide +kernel
theorem d_Ch_look_1 : decode b_Ch_look 1 = .ok (.invokestatic 54, 3) := by decide +kernel
theorem d_Ch_look_4 : decode b_Ch_look 4 = .ok (.ifCond .ne 5, 3) := by decide +kernel
theorem d_Ch_look_7 : decode b_Ch_look 7 = .ok (.iconst (-1), 1) := by decide +kernel
theorem d_Ch_look_8 : decode b_Ch_look 8 = .ok (.ireturn, 1) := by decide +kernel
theorem d_Ch_look_9 : decode b_Ch_look 9 = .ok (.aload_n 0, 1) := by decide +kernel
theorem d_Ch_look_10 : decode b_Ch_look 10 = .ok (.getfield 11, 3) := by decide +kernel
theorem d_Ch_look_13 : decode b_Ch_look 13 = .ok (.iload_n 1, 1) := by decide +kernel
theorem d_Ch_look_14 : decode b_Ch_look 14 = .ok (.aaload, 1) := by decide +kernel
theorem d_Ch_look_15 : decode b_Ch_look 15 = .ok (.astore_n 3, 1) := by decide +kernel
theorem d_Ch_look_16 : decode b_Ch_look 16 = .ok (.iload_n 2, 1) := by decide +kernel
theorem d_Ch_look_17 : decode b_Ch_look 17 = .ok (.tableswitch 143 0 10 #[59, 72, 80, 88, 96, 101, 106, 111, 119, 127, 135], 59) := by decide +kernel
theorem d_Ch_look_76 : decode b_Ch_look 76 = .ok (.aload_n 3, 1) := by decide +kernel
theorem d_Ch_look_77 : decode b_Ch_look 77 = .ok (.getfield 57, 3) := by decide +kernel
theorem d_Ch_look_80 : decode b_Ch_look 80 = .ok (.ifCond .eq 7, 3) := by decide +kernel
theorem d_Ch_look_83 : decode b_Ch_look 83 = .ok (.iconst 1, 1) := by decide +kernel
theorem d_Ch_look_84 : decode b_Ch_look 84 = .ok (.goto 4, 3) := by decide +kernel
theorem d_Ch_look_87 : decode b_Ch_look 87 = .ok (.iconst 0, 1) := by decide +kernel
theorem d_Ch_look_88 : decode b_Ch_look 88 = .ok (.ireturn, 1) := by decide +kernel
theorem d_Ch_look_89 : decode b_Ch_look 89 = .ok (.aload_n 3, 1) := by decide +kernel
theorem d_Ch_look_90 : decode b_Ch_look 90 = .ok (.getfield 61, 3) := by decide +kernel
theorem d_Ch_look_93 : decode b_Ch_look 93 = .ok (.getfield 65, 3) := by decide +kernel
theorem d_Ch_look_96 : decode b_Ch_look 96 = .ok (.ireturn, 1) := by decide +kernel
theorem d_Ch_look_97 : decode b_Ch_look 97 = .ok (.aload_n 3, 1) := by decide +kernel
theorem d_Ch_look_98 : decode b_Ch_look 98 = .ok (.getfield 61, 3) := by decide +kernel
theorem d_Ch_look_101 : decode b_Ch_look 101 = .ok (.getfield 179, 3) := by decide +kernel
theorem d_Ch_look_104 : decode b_Ch_look 104 = .ok (.ireturn, 1) := by decide +kernel
theorem d_Ch_look_105 : decode b_Ch_look 105 = .ok (.aload_n 3, 1) := by decide +kernel
theorem d_Ch_look_106 : decode b_Ch_look 106 = .ok (.getfield 61, 3) := by decide +kernel
theorem d_Ch_look_109 : decode b_Ch_look 109 = .ok (.getfield 182, 3) := by decide +kernel
theorem d_Ch_look_112 : decode b_Ch_look 112 = .ok (.ireturn, 1) := by decide +kernel
theorem d_Ch_look_113 : decode b_Ch_look 113 = .ok (.aload_n 3, 1) := by decide +kernel
theorem d_Ch_look_114 : decode b_Ch_look 114 = .ok (.getfield 89, 3) := by decide +kernel
theorem d_Ch_look_117 : decode b_Ch_look 117 = .ok (.ireturn, 1) := by decide +kernel
theorem d_Ch_look_118 : decode b_Ch_look 118 = .ok (.aload_n 3, 1) := by decide +kernel
theorem d_Ch_look_119 : decode b_Ch_look 119 = .ok (.getfield 172, 3) := by decide +kernel
theorem d_Ch_look_122 : decode b_Ch_look 122 = .ok (.ireturn, 1) := by decide +kernel
theorem d_Ch_look_123 : decode b_Ch_look 123 = .ok (.aload_n 3, 1) := by decide +kernel
theorem d_Ch_look_124 : decode b_Ch_look 124 = .ok (.getfield 79, 3) := by decide +kernel
theorem d_Ch_look_127 : decode b_Ch_look 127 = .ok (.ireturn, 1) := by decide +kernel
theorem d_Ch_look_128 : decode b_Ch_look 128 = .ok (.aload_n 3, 1) := by decide +kernel
theorem d_Ch_look_129 : decode b_Ch_look 129 = .ok (.getfield 92, 3) := by decide +kernel
theorem d_Ch_look_132 : decode b_Ch_look 132 = .ok (.getfield 109, 3) := by decide +kernel
theorem d_Ch_look_135 : decode b_Ch_look 135 = .ok (.ireturn, 1) := by decide +kernel
theorem d_Ch_look_136 : decode b_Ch_look 136 = .ok (.aload_n 3, 1) := by decide +kernel
theorem d_Ch_look_137 : decode b_Ch_look 137 = .ok (.getfield 92, 3) := by decide +kernel
theorem d_Ch_look_140 : decode b_Ch_look 140 = .ok (.getfield 125, 3) := by decide +kernel
theorem d_Ch_look_143 : decode b_Ch_look 143 = .ok (.ireturn, 1) := by decide +kernel
theorem d_Ch_look_144 : decode b_Ch_look 144 = .ok (.aload_n 3, 1) := by decide +kernel
theorem d_Ch_look_145 : decode b_Ch_look 145 = .ok (.getfield 92, 3) := by decide +kernel
theorem d_Ch_look_148 : decode b_Ch_look 148 = .ok (.getfield 138, 3) := by decide +kernel
theorem d_Ch_look_151 : decode b_Ch_look 151 = .ok (.ireturn, 1) := by decide +kernel
theorem d_Ch_look_152 : decode b_Ch_look 152 = .ok (.aload_n 3, 1) := by decide +kernel
theorem d_Ch_look_153 : decode b_Ch_look 153 = .ok (.getfield 92, 3) := by decide +kernel
theorem d_Ch_look_156 : decode b_Ch_look 156 = .ok (.getfield 185, 3) := by decide +kernel
theorem d_Ch_look_159 : decode b_Ch_look 159 = .ok (.ireturn, 1) := by decide +kernel
theorem d_Ch_look_160 : decode b_Ch_look 160 = .ok (.iconst (-1), 1) := by decide +kernel
theorem d_Ch_look_161 : decode b_Ch_look 161 = .ok (.ireturn, 1) := by decide +kernel
theorem d_Ch_value_0 : decode b_Ch_value 0 = .ok (.iload_n 1, 1) := by decide +kernel
theorem d_Ch_value_1 : decode b_Ch_value 1 = .ok (.invokestatic 54, 3) := by decide +kernel
theorem d_Ch_value_4 : decode b_Ch_value 4 = .ok (.ifCond .eq 27, 3) := by decide +kernel
theorem d_Ch_value_7 : decode b_Ch_value 7 = .ok (.iload_n 2, 1) := by decide +kernel
theorem d_Ch_value_8 : decode b_Ch_value 8 = .ok (.invokestatic 36, 3) := by decide +kernel
theorem d_Ch_value_11 : decode b_Ch_value 11 = .ok (.ifCond .eq 20, 3) := by decide +kernel
theorem d_Ch_value_14 : decode b_Ch_value 14 = .ok (.aload_n 0, 1) := by decide +kernel
theorem d_Ch_value_15 : decode b_Ch_value 15 = .ok (.getfield 11, 3) := by decide +kernel
theorem d_Ch_value_18 : decode b_Ch_value 18 = .ok (.iload_n 1, 1) := by decide +kernel
theorem d_Ch_value_19 : decode b_Ch_value 19 = .ok (.aaload, 1) := by decide +kernel
theorem d_Ch_value_20 : decode b_Ch_value 20 = .ok (.getfield 61, 3) := by decide +kernel
theorem d_Ch_value_23 : decode b_Ch_value 23 = .ok (.getfield 188, 3) := by decide +kernel
theorem d_Ch_value_26 : decode b_Ch_value 26 = .ok (.iload_n 2, 1) := by decide +kernel
theorem d_Ch_value_27 : decode b_Ch_value 27 = .ok (.iaload, 1) := by decide +kernel
theorem d_Ch_value_28 : decode b_Ch_value 28 = .ok (.goto 4, 3) := by decide +kernel
theorem d_Ch_value_31 : decode b_Ch_value 31 = .ok (.iconst 0, 1) := by decide +kernel
theorem d_Ch_value_32 : decode b_Ch_value 32 = .ok (.ireturn, 1) := by decide +kernel
theorem d_Ch_promised_0 : decode b_Ch_promised 0 = .ok (.iload_n 1, 1) := by decide +kernel
theorem d_Ch_promised_1 : decode b_Ch_promised 1 = .ok (.invokestatic 54, 3) := by decide +kernel
theorem d_Ch_promised_4 : decode b_Ch_promised 4 = .ok (.ifCond .eq 17, 3) := by decide +kernel
theorem d_Ch_promised_7 : decode b_Ch_promised 7 = .ok (.iload_n 2, 1) := by decide +kernel
theorem d_Ch_promised_8 : decode b_Ch_promised 8 = .ok (.invokestatic 191, 3) := by decide +kernel
theorem d_Ch_promised_11 : decode b_Ch_promised 11 = .ok (.ifCond .eq 10, 3) := by decide +kernel
theorem d_Ch_promised_14 : decode b_Ch_promised 14 = .ok (.iload_n 3, 1) := by decide +kernel
theorem d_Ch_promised_15 : decode b_Ch_promised 15 = .ok (.invokestatic 194, 3) := by decide +kernel
theorem d_Ch_promised_18 : decode b_Ch_promised 18 = .ok (.ifCond .ne 5, 3) := by decide +kernel
theorem d_Ch_promised_21 : decode b_Ch_promised 21 = .ok (.iconst (-1), 1) := by decide +kernel
theorem d_Ch_promised_22 : decode b_Ch_promised 22 = .ok (.ireturn, 1) := by decide +kernel
theorem d_Ch_promised_23 : decode b_Ch_promised 23 = .ok (.aload_n 0, 1) := by decide +kernel
theorem d_Ch_promised_24 : decode b_Ch_promised 24 = .ok (.getfield 11, 3) := by decide +kernel
theorem d_Ch_promised_27 : decode b_Ch_promised 27 = .ok (.iload_n 1, 1) := by decide +kernel
theorem d_Ch_promised_28 : decode b_Ch_promised 28 = .ok (.aaload, 1) := by decide +kernel
theorem d_Ch_promised_29 : decode b_Ch_promised 29 = .ok (.getfield 118, 3) := by decide +kernel
theorem d_Ch_promised_32 : decode b_Ch_promised 32 = .ok (.getfield 122, 3) := by decide +kernel
theorem d_Ch_promised_35 : decode b_Ch_promised 35 = .ok (.iload_n 2, 1) := by decide +kernel
theorem d_Ch_promised_36 : decode b_Ch_promised 36 = .ok (.iload_n 3, 1) := by decide +kernel
theorem d_Ch_promised_37 : decode b_Ch_promised 37 = .ok (.invokestatic 112, 3) := by decide +kernel
theorem d_Ch_promised_40 : decode b_Ch_promised 40 = .ok (.iaload, 1) := by decide +kernel
theorem d_Ch_promised_41 : decode b_Ch_promised 41 = .ok (.ireturn, 1) := by decide +kernel
theorem d_Ch_vote_0 : decode b_Ch_vote 0 = .ok (.iload_n 1, 1) := by decide +kernel
theorem d_Ch_vote_1 : decode b_Ch_vote 1 = .ok (.invokestatic 54, 3) := by decide +kernel
theorem d_Ch_vote_4 : decode b_Ch_vote 4 = .ok (.ifCond .eq 17, 3) := by decide +kernel
theorem d_Ch_vote_7 : decode b_Ch_vote 7 = .ok (.iload_n 2, 1) := by decide +kernel
theorem d_Ch_vote_8 : decode b_Ch_vote 8 = .ok (.invokestatic 191, 3) := by decide +kernel
theorem d_Ch_vote_11 : decode b_Ch_vote 11 = .ok (.ifCond .eq 10, 3) := by decide +kernel
theorem d_Ch_vote_14 : decode b_Ch_vote 14 = .ok (.iload_n 3, 1) := by decide +kernel
theorem d_Ch_vote_15 : decode b_Ch_vote 15 = .ok (.invokestatic 194, 3) := by decide +kernel
theorem d_Ch_vote_18 : decode b_Ch_vote 18 = .ok (.ifCond .ne 5, 3) := by decide +kernel
theorem d_Ch_vote_21 : decode b_Ch_vote 21 = .ok (.iconst (-1), 1) := by decide +kernel
theorem d_Ch_vote_22 : decode b_Ch_vote 22 = .ok (.ireturn, 1) := by decide +kernel
theorem d_Ch_vote_23 : decode b_Ch_vote 23 = .ok (.aload_n 0, 1) := by decide +kernel
theorem d_Ch_vote_24 : decode b_Ch_vote 24 = .ok (.getfield 11, 3) := by decide +kernel
theorem d_Ch_vote_27 : decode b_Ch_vote 27 = .ok (.iload_n 1, 1) := by decide +kernel
theorem d_Ch_vote_28 : decode b_Ch_vote 28 = .ok (.aaload, 1) := by decide +kernel
theorem d_Ch_vote_29 : decode b_Ch_vote 29 = .ok (.getfield 118, 3) := by decide +kernel
theorem d_Ch_vote_32 : decode b_Ch_vote 32 = .ok (.astore 4, 2) := by decide +kernel
theorem d_Ch_vote_34 : decode b_Ch_vote 34 = .ok (.iload_n 2, 1) := by decide +kernel
theorem d_Ch_vote_35 : decode b_Ch_vote 35 = .ok (.iload_n 3, 1) := by decide +kernel
theorem d_Ch_vote_36 : decode b_Ch_vote 36 = .ok (.invokestatic 112, 3) := by decide +kernel
theorem d_Ch_vote_39 : decode b_Ch_vote 39 = .ok (.istore 5, 2) := by decide +kernel
theorem d_Ch_vote_41 : decode b_Ch_vote 41 = .ok (.bipush 64, 2) := by decide +kernel
theorem d_Ch_vote_43 : decode b_Ch_vote 43 = .ok (.aload 4, 2) := by decide +kernel
theorem d_Ch_vote_45 : decode b_Ch_vote 45 = .ok (.getfield 128, 3) := by decide +kernel
theorem d_Ch_vote_48 : decode b_Ch_vote 48 = .ok (.iload 5, 2) := by decide +kernel
theorem d_Ch_vote_50 : decode b_Ch_vote 50 = .ok (.iaload, 1) := by decide +kernel
theorem d_Ch_vote_51 : decode b_Ch_vote 51 = .ok (.imul, 1) := by decide +kernel
theorem d_Ch_vote_52 : decode b_Ch_vote 52 = .ok (.aload 4, 2) := by decide +kernel
theorem d_Ch_vote_54 : decode b_Ch_vote 54 = .ok (.getfield 131, 3) := by decide +kernel
theorem d_Ch_vote_57 : decode b_Ch_vote 57 = .ok (.iload 5, 2) := by decide +kernel
theorem d_Ch_vote_59 : decode b_Ch_vote 59 = .ok (.iaload, 1) := by decide +kernel
theorem d_Ch_vote_60 : decode b_Ch_vote 60 = .ok (.iadd, 1) := by decide +kernel
theorem d_Ch_vote_61 : decode b_Ch_vote 61 = .ok (.ireturn, 1) := by decide +kernel
theorem d_Ch_known_0 : decode b_Ch_known 0 = .ok (.iload_n 1, 1) := by decide +kernel
theorem d_Ch_known_1 : decode b_Ch_known 1 = .ok (.invokestatic 54, 3) := by decide +kernel
theorem d_Ch_known_4 : decode b_Ch_known 4 = .ok (.ifCond .eq 24, 3) := by decide +kernel
theorem d_Ch_known_7 : decode b_Ch_known 7 = .ok (.iload_n 2, 1) := by decide +kernel
theorem d_Ch_known_8 : decode b_Ch_known 8 = .ok (.invokestatic 194, 3) := by decide +kernel
theorem d_Ch_known_11 : decode b_Ch_known 11 = .ok (.ifCond .eq 17, 3) := by decide +kernel
theorem d_Ch_known_14 : decode b_Ch_known 14 = .ok (.aload_n 0, 1) := by decide +kernel
theorem d_Ch_known_15 : decode b_Ch_known 15 = .ok (.getfield 11, 3) := by decide +kernel
theorem d_Ch_known_18 : decode b_Ch_known 18 = .ok (.iload_n 1, 1) := by decide +kernel
theorem d_Ch_known_19 : decode b_Ch_known 19 = .ok (.aaload, 1) := by decide +kernel
theorem d_Ch_known_20 : decode b_Ch_known 20 = .ok (.getfield 197, 3) := by decide +kernel
theorem d_Ch_known_23 : decode b_Ch_known 23 = .ok (.iload_n 2, 1) := by decide +kernel
theorem d_Ch_known_24 : decode b_Ch_known 24 = .ok (.iaload, 1) := by decide +kernel
theorem d_Ch_known_25 : decode b_Ch_known 25 = .ok (.goto 4, 3) := by decide +kernel
theorem d_Ch_known_28 : decode b_Ch_known 28 = .ok (.iconst (-1), 1) := by decide +kernel
theorem d_Ch_known_29 : decode b_Ch_known 29 = .ok (.ireturn, 1) := by decide +kernel
def wp_Ch_route (k2 : Nat) (z1 : MchT) (z2 : MndT) (x1 : Int32) (x2 : Int32) (post : Int32 → MchT → MndT → Prop) : Prop := (wp_Bk_has (mch_book z1) x1 (fun (r1 : Int32) (u2 : MbkT) => ((r1 = (0 : Int32) → (post (-1 : Int32) (mch_s_book z1 u2) z2)) ∧ (¬ r1 = (0 : Int32) → (wp_Ch_isNode x2 (fun (r4 : Int32) => ((r4 = (0 : Int32) → (post (-1 : Int32) (mch_s_book z1 u2) z2)) ∧ (¬ r4 = (0 : Int32) → (x2 = nI k2 ∧ (((mnd_up z2) = (0 : Int32) → (post (0 : Int32) (mch_s_book z1 u2) z2)) ∧ (¬ (mnd_up z2) = (0 : Int32) → (((mch_routerConfiguration z1) ≤ (mst_configuration (mnd_state z2)) → (((mst_configuration (mnd_state z2)) ≤ (mch_routerConfiguration z1) → (wp_St_isDone (mnd_state z2) x1 (fun (r9 : Int32) (u10 : MstT) => ((r9 = (0 : Int32) → (wp_St_hasMember u10 x2 (fun (r12 : Int32) (u13 : MstT) => ((r12 = (0 : Int32) → (post (3 : Int32) (mch_s_book z1 u2) (mnd_s_state (mnd_s_state z2 u10) u13))) ∧ (¬ r12 = (0 : Int32) → (post (2 : Int32) (mch_s_book z1 u2) (mnd_s_pending (mnd_s_state (mnd_s_state z2 u10) u13) x1))))))) ∧ (¬ r9 = (0 : Int32) → (vp_in x1 31 ∧ (vp_in x1 31 ∧ (vp_in x1 31 ∧ (vp_in x1 31 ∧ (post (1 : Int32) (mch_s_heardCounts (mch_s_heardAnswers (mch_s_book z1 u2) (upd (mch_heardAnswers z1) (x1).toNatClampNeg ((mst_answers u10) (x1).toNatClampNeg))) (upd (mch_heardCounts z1) (x1).toNatClampNeg (((mch_heardCounts z1) (x1).toNatClampNeg) + (1 : Int32)))) (mnd_s_state z2 u10))))))))))) ∧ (¬ (mst_configuration (mnd_state z2)) ≤ (mch_routerConfiguration z1) → (post (5 : Int32) (mch_s_routerConfiguration (mch_s_book z1 u2) (mst_configuration (mnd_state z2))) z2)))) ∧ (¬ (mch_routerConfiguration z1) ≤ (mst_configuration (mnd_state z2)) → (post (4 : Int32) (mch_s_book z1 u2) z2))))))))))))))
abbrev rm_Ch_route : Room := { frames := 1, cells := 0, slots := 0, locals := 21 }
def wp_Ch_start (k2 : Nat) (z1 : MchT) (z2 : MndT) (x1 : Int32) (x2 : Int32) (post : Int32 → MchT → MndT → Prop) : Prop := (wp_Ch_isNode x1 (fun (r1 : Int32) => ((r1 = (0 : Int32) → (post (-1 : Int32) z1 z2)) ∧ (¬ r1 = (0 : Int32) → (x1 = nI k2 ∧ (((mnd_up z2) = (0 : Int32) → (post (0 : Int32) z1 z2)) ∧ (¬ (mnd_up z2) = (0 : Int32) → (wp_Nd_mayAttempt z2 x2 (fun (r4 : Int32) (u5 : MndT) => ((r4 = (0 : Int32) → (post (0 : Int32) z1 u5)) ∧ (¬ r4 = (0 : Int32) → (wp_Nd_leastBallotAboveLast u5 (fun (r7 : Int32) (u8 : MndT) => (wp_At_begin (mnd_attempt u8) x2 r7 (fun (u10 : MatT) => (post r7 z1 (mnd_s_attempt (mnd_s_last u8 r7) u10)))))))))))))))))
abbrev rm_Ch_start : Room := { frames := 3, cells := 0, slots := 0, locals := 63 }
def wp_Ch_crash (k2 : Nat) (z1 : MchT) (z2 : MndT) (x1 : Int32) (post : Int32 → MchT → MndT → Prop) : Prop := (wp_Ch_isNode x1 (fun (r1 : Int32) => ((r1 = (0 : Int32) → (post (0 : Int32) z1 z2)) ∧ (¬ r1 = (0 : Int32) → (x1 = nI k2 ∧ (((mnd_up z2) = (0 : Int32) → (post (0 : Int32) z1 z2)) ∧ (¬ (mnd_up z2) = (0 : Int32) → (x1 = nI k2 ∧ (wp_Nd_goDown z2 (fun (u5 : MndT) => (post (1 : Int32) z1 u5)))))))))))
abbrev rm_Ch_crash : Room := { frames := 4, cells := 0, slots := 0, locals := 82 }
def wp_Ch_restart (k2 : Nat) (z1 : MchT) (z2 : MndT) (x1 : Int32) (post : Int32 → MchT → MndT → Prop) : Prop := (wp_Ch_isNode x1 (fun (r1 : Int32) => ((r1 = (0 : Int32) → (post (0 : Int32) z1 z2)) ∧ (¬ r1 = (0 : Int32) → (x1 = nI k2 ∧ (((mnd_up z2) = (0 : Int32) → (x1 = nI k2 ∧ (post (1 : Int32) z1 (mnd_s_up z2 (1 : Int32))))) ∧ (¬ (mnd_up z2) = (0 : Int32) → (post (0 : Int32) z1 z2))))))))
abbrev rm_Ch_restart : Room := { frames := 1, cells := 0, slots := 0, locals := 20 }
def wp_Ch_retire (k2 : Nat) (z1 : MchT) (z2 : MndT) (x1 : Int32) (post : Int32 → MchT → MndT → Prop) : Prop := (wp_Ch_isNode x1 (fun (r1 : Int32) => ((r1 = (0 : Int32) → (post (-1 : Int32) z1 z2)) ∧ (¬ r1 = (0 : Int32) → (x1 = nI k2 ∧ (∀ v3 : Int32, v3 = (mst_configuration (mnd_state z2)) → (((mnd_up z2) = (0 : Int32) → (post (0 : Int32) z1 z2)) ∧ (¬ (mnd_up z2) = (0 : Int32) → (((mnd_retired z2) = v3 → (post (0 : Int32) z1 z2)) ∧ (¬ (mnd_retired z2) = v3 → (wp_Lg_forgetBelow (mnd_ledger z2) v3 (fun (r6 : Int32) (u7 : MlgT) => (post ((1 : Int32) + r6) z1 (mnd_s_ledger (mnd_s_retired z2 v3) u7))))))))))))))
abbrev rm_Ch_retire : Room := { frames := 1, cells := 0, slots := 0, locals := 23 }
def wp_Ch_look (k2 : Nat) (z1 : MchT) (z2 : MndT) (x1 : Int32) (x2 : Int32) (post : Int32 → MchT → MndT → Prop) : Prop := (wp_Ch_isNode x1 (fun (r1 : Int32) => ((r1 = (0 : Int32) → (post (-1 : Int32) z1 z2)) ∧ (¬ r1 = (0 : Int32) → (x1 = nI k2 ∧ ((x2 = (0 : Int32) → (((mnd_up z2) = (0 : Int32) → (post (0 : Int32) z1 z2)) ∧ (¬ (mnd_up z2) = (0 : Int32) → (post (1 : Int32) z1 z2)))) ∧ (¬ x2 = (0 : Int32) → ((x2 = (1 : Int32) → (post (mst_configuration (mnd_state z2)) z1 z2)) ∧ (¬ x2 = (1 : Int32) → ((x2 = (2 : Int32) → (post (mst_executed (mnd_state z2)) z1 z2)) ∧ (¬ x2 = (2 : Int32) → ((x2 = (3 : Int32) → (post (mst_membership (mnd_state z2)) z1 z2)) ∧ (¬ x2 = (3 : Int32) → ((x2 = (4 : Int32) → (post (mnd_last z2) z1 z2)) ∧ (¬ x2 = (4 : Int32) → ((x2 = (5 : Int32) → (post (mnd_retired z2) z1 z2)) ∧ (¬ x2 = (5 : Int32) → ((x2 = (6 : Int32) → (post (mnd_pending z2) z1 z2)) ∧ (¬ x2 = (6 : Int32) → ((x2 = (7 : Int32) → (post (mat_slot (mnd_attempt z2)) z1 z2)) ∧ (¬ x2 = (7 : Int32) → ((x2 = (8 : Int32) → (post (mat_ballot (mnd_attempt z2)) z1 z2)) ∧ (¬ x2 = (8 : Int32) → ((x2 = (9 : Int32) → (post (mat_promisers (mnd_attempt z2)) z1 z2)) ∧ (¬ x2 = (9 : Int32) → ((x2 = (10 : Int32) → (post (mat_voters (mnd_attempt z2)) z1 z2)) ∧ (¬ x2 = (10 : Int32) → (post (-1 : Int32) z1 z2))))))))))))))))))))))))))))
abbrev rm_Ch_look : Room := { frames := 1, cells := 0, slots := 0, locals := 20 }
def wp_Ch_value (k2 : Nat) (z1 : MchT) (z2 : MndT) (x1 : Int32) (x2 : Int32) (post : Int32 → MchT → MndT → Prop) : Prop := (wp_Ch_isNode x1 (fun (r1 : Int32) => ((r1 = (0 : Int32) → (post (0 : Int32) z1 z2)) ∧ (¬ r1 = (0 : Int32) → (wp_Ch_isKey x2 (fun (r3 : Int32) => ((r3 = (0 : Int32) → (post (0 : Int32) z1 z2)) ∧ (¬ r3 = (0 : Int32) → (x1 = nI k2 ∧ (vp_in x2 4 ∧ (post ((mst_values (mnd_state z2)) (x2).toNatClampNeg) z1 z2)))))))))))
abbrev rm_Ch_value : Room := { frames := 1, cells := 0, slots := 0, locals := 20 }
def wp_Ch_promised (k2 : Nat) (z1 : MchT) (z2 : MndT) (x1 : Int32) (x2 : Int32) (x3 : Int32) (post : Int32 → MchT → MndT → Prop) : Prop := (wp_Ch_isNode x1 (fun (r1 : Int32) => ((r1 = (0 : Int32) → (post (-1 : Int32) z1 z2)) ∧ (¬ r1 = (0 : Int32) → (wp_Ch_isConfiguration x2 (fun (r3 : Int32) => ((r3 = (0 : Int32) → (post (-1 : Int32) z1 z2)) ∧ (¬ r3 = (0 : Int32) → (wp_Ch_isSlot x3 (fun (r5 : Int32) => ((r5 = (0 : Int32) → (post (-1 : Int32) z1 z2)) ∧ (¬ r5 = (0 : Int32) → (x1 = nI k2 ∧ (wp_Lg_cellOf x2 x3 (fun (r7 : Int32) => (vp_in r7 40 ∧ (post ((mlg_promisedBallots (mnd_ledger z2)) (r7).toNatClampNeg) z1 z2)))))))))))))))))
abbrev rm_Ch_promised : Room := { frames := 1, cells := 0, slots := 0, locals := 21 }
def wp_Ch_vote (k2 : Nat) (z1 : MchT) (z2 : MndT) (x1 : Int32) (x2 : Int32) (x3 : Int32) (post : Int32 → MchT → MndT → Prop) : Prop := (wp_Ch_isNode x1 (fun (r1 : Int32) => ((r1 = (0 : Int32) → (post (-1 : Int32) z1 z2)) ∧ (¬ r1 = (0 : Int32) → (wp_Ch_isConfiguration x2 (fun (r3 : Int32) => ((r3 = (0 : Int32) → (post (-1 : Int32) z1 z2)) ∧ (¬ r3 = (0 : Int32) → (wp_Ch_isSlot x3 (fun (r5 : Int32) => ((r5 = (0 : Int32) → (post (-1 : Int32) z1 z2)) ∧ (¬ r5 = (0 : Int32) → (x1 = nI k2 ∧ (wp_Lg_cellOf x2 x3 (fun (r7 : Int32) => (vp_in r7 40 ∧ (vp_in r7 40 ∧ (post (((64 : Int32) * ((mlg_voteBallots (mnd_ledger z2)) (r7).toNatClampNeg)) + ((mlg_voteCommands (mnd_ledger z2)) (r7).toNatClampNeg)) z1 z2))))))))))))))))))
abbrev rm_Ch_vote : Room := { frames := 1, cells := 0, slots := 0, locals := 21 }
def wp_Ch_known (k2 : Nat) (z1 : MchT) (z2 : MndT) (x1 : Int32) (x2 : Int32) (post : Int32 → MchT → MndT → Prop) : Prop := (wp_Ch_isNode x1 (fun (r1 : Int32) => ((r1 = (0 : Int32) → (post (-1 : Int32) z1 z2)) ∧ (¬ r1 = (0 : Int32) → (wp_Ch_isSlot x2 (fun (r3 : Int32) => ((r3 = (0 : Int32) → (post (-1 : Int32) z1 z2)) ∧ (¬ r3 = (0 : Int32) → (x1 = nI k2 ∧ (vp_in x2 9 ∧ (post ((mnd_knownCommands z2) (x2).toNatClampNeg) z1 z2)))))))))))
abbrev rm_Ch_known : Room := { frames := 1, cells := 0, slots := 0, locals := 20 }
set_option maxHeartbeats 4000000 in
set_option maxRecDepth 100000 in
theorem c_Ch_route (l : Launch) (D : va_G) (cI cN cZ : ClassId) (a1 : Nat → Nat) (a2 : Nat → Nat) (g : Nat → Option Nat) (k2 : Nat) (hk2 : k2 < 6) (hg2 : g k2 = some (a2 0)) (z1 : MchT) (z2 : MndT) (x1 : Int32) (x2 : Int32) (post : Int32 → MchT → MndT → Prop) (hw : wp_Ch_route k2 z1 z2 x1 x2 post) : km_I l y_Ch_route (.code y_Ch_route b_Ch_route 5 (some .int) :: kmW) rm_Ch_route D kmC (kmT cI cN cZ) kmF kmM [.ref (a1 0), .int x1, .int x2] (mchW cI cN cZ a1 g z1 ++ mndW cI cN cZ a2 z2) (fun (r : Int32) (u : MchT × MndT) => post r u.1 u.2) (fun (u : MchT × MndT) => (mchW cI cN cZ a1 g u.1 ++ mndW cI cN cZ a2 u.2)) 0 0 := by
  refine km_startI (cc := b_Ch_route) (maxL := 5) (ret := (some .int)) (by decide) rfl (Nat.le_of_ble_eq_true rfl) ?_
  intro p e s m below meth c A ls hE hA hK hP hD hS hl
  obtain ⟨hx, hb, hr, hml, hown, hts0, hlk, hnm⟩ := id hE
  have hts : ∀ w ∈ kmW, w.before ([.ref (a1 0), .int x1, .int x2] : List Value).toArray s = true := fun w h => hts0 w (List.mem_cons_of_mem _ h)
  have hP : va_P D kmC (mchW cI cN cZ a1 g z1 ++ mndW cI cN cZ a2 z2) s.heap := hP
  have hl : lv_has ls 5 [(0, .ref (a1 0)), (1, .int x1), (2, .int x2)] := hl
  unfold wp_Ch_route at hw
  refine lv_aload_n hx hb d_Ch_route_0 rfl (lv_at hl 0 rfl) ?_
  refine va_get (D := D) (ci := 5) (v := .ref (a1 2)) (C := R_Ch) (T := F_Ch) (N := 5) hx hb hts iw_Ch hown hK.1 hP 0 rfl rfl 1 (by decide) (hts _ mw_179) (fun _ h => h) rfl d_Ch_route_1 ?_
  refine lv_iload_n hx hb d_Ch_route_4 rfl (lv_at hl 1 rfl) ?_
  refine km_ci (wr := [(a1 0, .inr (5, [.ref (a1 1), .ref (a1 2), .ref (a1 6), .ref (a1 7), .int (mch_routerConfiguration z1)])), (a1 1, .inl (cN, 6, .inr (.inr (.inr (.inr g))))), (a1 6, .inl (cI, 31, .inl (mch_heardAnswers z1))), (a1 7, .inl (cI, 31, .inl (mch_heardCounts z1))), (a2 0, .inr (2, [.int (mnd_number z2), .int (mnd_up z2), .ref (a2 1), .ref (a2 4), .int (mnd_last z2), .int (mnd_retired z2), .ref (a2 8), .int (mnd_pending z2), .ref (a2 9)])), (a2 1, .inr (4, [.int (mst_configuration (mnd_state z2)), .int (mst_membership (mnd_state z2)), .int (mst_executed (mnd_state z2)), .ref (a2 2), .int (mst_doneBits (mnd_state z2)), .ref (a2 3)])), (a2 2, .inl (cI, 4, .inl (mst_values (mnd_state z2)))), (a2 3, .inl (cI, 31, .inl (mst_answers (mnd_state z2)))), (a2 4, .inr (1, [.ref (a2 5), .ref (a2 6), .ref (a2 7)])), (a2 5, .inl (cI, 40, .inl (mlg_promisedBallots (mnd_ledger z2)))), (a2 6, .inl (cI, 40, .inl (mlg_voteBallots (mnd_ledger z2)))), (a2 7, .inl (cI, 40, .inl (mlg_voteCommands (mnd_ledger z2)))), (a2 8, .inl (cI, 9, .inl (mnd_knownCommands z2))), (a2 9, .inr (0, [.int (mat_slot (mnd_attempt z2)), .int (mat_ballot (mnd_attempt z2)), .int (mat_promisers (mnd_attempt z2)), .int (mat_voters (mnd_attempt z2)), .int (mat_bestBallot (mnd_attempt z2)), .int (mat_bestCommand (mnd_attempt z2)), .int (mat_command (mnd_attempt z2))]))]) (km_rVN (n := 1) hE kmG (c_Bk_has l D cI cN cZ (fun j => a1 (j + 2)) (mch_book z1) x1 _ hw) mw_225 (km_nM hK 7 rfl) mw_224 mp_2 mw_7 (by decide) ⟨rfl, rfl, ⟨by decide, by decide⟩, by decide, by decide⟩ hK (km_cut hP [2, 3, 4, 5] rfl) (hD.sub [2, 3, 4, 5] (by decide) rfl) (ci := 3) rfl hP (q0 := 2) rfl rfl hl.1 rfl (Nat.le_of_ble_eq_true rfl) d_Ch_route_5) hP hD hS hA [2, 3, 4, 5] [0, 1, 6, 7, 8, 9, 10, 11, 12, 13, 14, 15, 16, 17] rfl rfl (by decide) (by decide) (fun r1 u2 H locs hw hP hD hS => ?_)
  have hP := hP.sub (ws' := (mchW cI cN cZ a1 g (mch_s_book z1 u2) ++ mndW cI cN cZ a2 z2)) [0, 1, 14, 15, 16, 17, 2, 3, 4, 5, 6, 7, 8, 9, 10, 11, 12, 13] rfl
  have hD := hD.sub (ws' := (mchW cI cN cZ a1 g (mch_s_book z1 u2) ++ mndW cI cN cZ a2 z2)) [0, 1, 14, 15, 16, 17, 2, 3, 4, 5, 6, 7, 8, 9, 10, 11, 12, 13] (by decide) rfl
  refine lv_if_eq (tgt := 18) hx hb d_Ch_route_8 (by first | rfl | decide) (fun h3 => ?_) (fun h3 => ?_)
  · have hw := hw.1 h3
    refine lv_iconst (v := (-1 : Int32)) hx hb d_Ch_route_18 (by decide) ?_
    exact W.iret (v := (-1 : Int32)) hx hb hr (fun t ht hW => ⟨⟨(-1 : Int32), ((mch_s_book z1 u2), z2), rfl, hw, by rw [ht]; exact hP, hD⟩, hS.F ht⟩) hS.2.2 d_Ch_route_19
  · have hw := hw.2 h3
    refine lv_iload_n hx hb d_Ch_route_11 rfl (lv_at hl 2 rfl) ?_
    refine km_ci (wr := [(a1 0, .inr (5, [.ref (a1 1), .ref (a1 2), .ref (a1 6), .ref (a1 7), .int (mch_routerConfiguration (mch_s_book z1 u2))])), (a1 1, .inl (cN, 6, .inr (.inr (.inr (.inr g))))), (a1 2, .inr (3, [.ref (a1 3), .ref (a1 4), .ref (a1 5), .int (mbk_count (mch_book (mch_s_book z1 u2)))])), (a1 3, .inl (cI, 31, .inl (mbk_kinds (mch_book (mch_s_book z1 u2))))), (a1 4, .inl (cI, 31, .inl (mbk_keys (mch_book (mch_s_book z1 u2))))), (a1 5, .inl (cI, 31, .inl (mbk_numbers (mch_book (mch_s_book z1 u2))))), (a1 6, .inl (cI, 31, .inl (mch_heardAnswers (mch_s_book z1 u2)))), (a1 7, .inl (cI, 31, .inl (mch_heardCounts (mch_s_book z1 u2)))), (a2 0, .inr (2, [.int (mnd_number z2), .int (mnd_up z2), .ref (a2 1), .ref (a2 4), .int (mnd_last z2), .int (mnd_retired z2), .ref (a2 8), .int (mnd_pending z2), .ref (a2 9)])), (a2 1, .inr (4, [.int (mst_configuration (mnd_state z2)), .int (mst_membership (mnd_state z2)), .int (mst_executed (mnd_state z2)), .ref (a2 2), .int (mst_doneBits (mnd_state z2)), .ref (a2 3)])), (a2 2, .inl (cI, 4, .inl (mst_values (mnd_state z2)))), (a2 3, .inl (cI, 31, .inl (mst_answers (mnd_state z2)))), (a2 4, .inr (1, [.ref (a2 5), .ref (a2 6), .ref (a2 7)])), (a2 5, .inl (cI, 40, .inl (mlg_promisedBallots (mnd_ledger z2)))), (a2 6, .inl (cI, 40, .inl (mlg_voteBallots (mnd_ledger z2)))), (a2 7, .inl (cI, 40, .inl (mlg_voteCommands (mnd_ledger z2)))), (a2 8, .inl (cI, 9, .inl (mnd_knownCommands z2))), (a2 9, .inr (0, [.int (mat_slot (mnd_attempt z2)), .int (mat_ballot (mnd_attempt z2)), .int (mat_promisers (mnd_attempt z2)), .int (mat_voters (mnd_attempt z2)), .int (mat_bestBallot (mnd_attempt z2)), .int (mat_bestCommand (mnd_attempt z2)), .int (mat_command (mnd_attempt z2))]))]) (km_rS (n := 1) hE kmG (c_Ch_isNode l D cI cN cZ x2 _ hw) mw_228 mw_226 mw_227 mw_1 (by decide) ⟨rfl, rfl, ⟨by decide, by decide⟩, by decide, by decide⟩ hK (km_cut hP [] rfl) (hD.sub [] (by decide) rfl) rfl hl.1 rfl (Nat.le_of_ble_eq_true rfl) d_Ch_route_12) hP hD hS hA [] [0, 1, 2, 3, 4, 5, 6, 7, 8, 9, 10, 11, 12, 13, 14, 15, 16, 17] rfl rfl (by decide) (by decide) (fun r4 _ H locs hw hP hD hS => ?_)
    have hP := hP.sub (ws' := (mchW cI cN cZ a1 g (mch_s_book z1 u2) ++ mndW cI cN cZ a2 z2)) [0, 1, 2, 3, 4, 5, 6, 7, 8, 9, 10, 11, 12, 13, 14, 15, 16, 17] rfl
    have hD := hD.sub (ws' := (mchW cI cN cZ a1 g (mch_s_book z1 u2) ++ mndW cI cN cZ a2 z2)) [0, 1, 2, 3, 4, 5, 6, 7, 8, 9, 10, 11, 12, 13, 14, 15, 16, 17] (by decide) rfl
    refine lv_if_ne (tgt := 20) hx hb d_Ch_route_15 (by first | rfl | decide) (fun h5 => ?_) (fun h5 => ?_)
    · have hw := hw.2 h5
      refine lv_aload_n hx hb d_Ch_route_20 rfl (lv_at hl 0 rfl) ?_
      refine va_get (D := D) (ci := 5) (v := .ref (a1 1)) (C := R_Ch) (T := F_Ch) (N := 5) hx hb hts iw_Ch hown hK.1 hP 0 rfl rfl 0 (by decide) (hts _ mw_178) (fun _ h => h) rfl d_Ch_route_21 ?_
      refine lv_iload_n hx hb d_Ch_route_24 rfl (lv_at hl 2 rfl) ?_
      obtain ⟨hk, hw⟩ := hw
      refine km_ald hx hb hK.1 hP 1 1 rfl rfl hk hk2 (by decide) hg2 d_Ch_route_25 ?_
      refine lv_astore_n (lv' := [(3, .ref (a2 0)), (0, .ref (a1 0)), (1, .int x1), (2, .int x2)]) hx hb d_Ch_route_26 rfl hl (by decide) rfl (fun ls hl => ?_)
      refine lv_aload_n hx hb d_Ch_route_27 rfl (lv_at hl 0 rfl) ?_
      refine va_getN (D := D) (ci := 2) (v := .int (mnd_up z2)) (C := R_Nd) (T := F_Nd) (N := 9) hx hb hts iw_Nd hown hK.1 hP 8 rfl rfl 1 (by decide) (km_nF hK 20 rfl) (fun _ h => h) rfl d_Ch_route_28 ?_
      refine lv_if_ne (tgt := 36) hx hb d_Ch_route_31 (by first | rfl | decide) (fun h6 => ?_) (fun h6 => ?_)
      · have hw := hw.2 h6
        refine lv_aload_n hx hb d_Ch_route_36 rfl (lv_at hl 0 rfl) ?_
        refine va_getN (D := D) (ci := 2) (v := .ref (a2 1)) (C := R_Nd) (T := F_Nd) (N := 9) hx hb hts iw_Nd hown hK.1 hP 8 rfl rfl 2 (by decide) (km_nF hK 21 rfl) (fun _ h => h) rfl d_Ch_route_37 ?_
        refine lv_astore (lv' := [(4, .ref (a2 1)), (3, .ref (a2 0)), (0, .ref (a1 0)), (1, .int x1), (2, .int x2)]) hx hb d_Ch_route_40 hl (by decide) rfl (fun ls hl => ?_)
        refine lv_aload hx hb d_Ch_route_42 (lv_at hl 0 rfl) ?_
        refine va_getN (D := D) (ci := 4) (v := .int (mst_configuration (mnd_state z2))) (C := R_St) (T := F_St) (N := 6) hx hb hts iw_St hown hK.1 hP 9 rfl rfl 0 (by decide) (km_nF hK 0 rfl) (fun _ h => h) rfl d_Ch_route_44 ?_
        refine lv_aload_n hx hb d_Ch_route_47 rfl (lv_at hl 2 rfl) ?_
        refine va_get (D := D) (ci := 5) (v := .int (mch_routerConfiguration z1)) (C := R_Ch) (T := F_Ch) (N := 5) hx hb hts iw_Ch hown hK.1 hP 0 rfl rfl 4 (by decide) (hts _ mw_182) (fun _ h => h) rfl d_Ch_route_48 ?_
        refine lv_icmp_ge (tgt := 56) hx hb d_Ch_route_51 (by first | rfl | decide) (fun h7 => ?_) (fun h7 => ?_)
        · have hw := hw.1 h7
          refine lv_aload hx hb d_Ch_route_56 (lv_at hl 0 rfl) ?_
          refine va_getN (D := D) (ci := 4) (v := .int (mst_configuration (mnd_state z2))) (C := R_St) (T := F_St) (N := 6) hx hb hts iw_St hown hK.1 hP 9 rfl rfl 0 (by decide) (km_nF hK 0 rfl) (fun _ h => h) rfl d_Ch_route_58 ?_
          refine lv_aload_n hx hb d_Ch_route_61 rfl (lv_at hl 2 rfl) ?_
          refine va_get (D := D) (ci := 5) (v := .int (mch_routerConfiguration z1)) (C := R_Ch) (T := F_Ch) (N := 5) hx hb hts iw_Ch hown hK.1 hP 0 rfl rfl 4 (by decide) (hts _ mw_182) (fun _ h => h) rfl d_Ch_route_62 ?_
          refine lv_icmp_le (tgt := 79) hx hb d_Ch_route_65 (by first | rfl | decide) (fun h8 => ?_) (fun h8 => ?_)
          · have hw := hw.1 h8
            refine lv_aload hx hb d_Ch_route_79 (lv_at hl 0 rfl) ?_
            refine lv_iload_n hx hb d_Ch_route_81 rfl (lv_at hl 3 rfl) ?_
            refine km_ci (wr := [(a1 0, .inr (5, [.ref (a1 1), .ref (a1 2), .ref (a1 6), .ref (a1 7), .int (mch_routerConfiguration (mch_s_book z1 u2))])), (a1 1, .inl (cN, 6, .inr (.inr (.inr (.inr g))))), (a1 2, .inr (3, [.ref (a1 3), .ref (a1 4), .ref (a1 5), .int (mbk_count (mch_book (mch_s_book z1 u2)))])), (a1 3, .inl (cI, 31, .inl (mbk_kinds (mch_book (mch_s_book z1 u2))))), (a1 4, .inl (cI, 31, .inl (mbk_keys (mch_book (mch_s_book z1 u2))))), (a1 5, .inl (cI, 31, .inl (mbk_numbers (mch_book (mch_s_book z1 u2))))), (a1 6, .inl (cI, 31, .inl (mch_heardAnswers (mch_s_book z1 u2)))), (a1 7, .inl (cI, 31, .inl (mch_heardCounts (mch_s_book z1 u2)))), (a2 0, .inr (2, [.int (mnd_number z2), .int (mnd_up z2), .ref (a2 1), .ref (a2 4), .int (mnd_last z2), .int (mnd_retired z2), .ref (a2 8), .int (mnd_pending z2), .ref (a2 9)])), (a2 4, .inr (1, [.ref (a2 5), .ref (a2 6), .ref (a2 7)])), (a2 5, .inl (cI, 40, .inl (mlg_promisedBallots (mnd_ledger z2)))), (a2 6, .inl (cI, 40, .inl (mlg_voteBallots (mnd_ledger z2)))), (a2 7, .inl (cI, 40, .inl (mlg_voteCommands (mnd_ledger z2)))), (a2 8, .inl (cI, 9, .inl (mnd_knownCommands z2))), (a2 9, .inr (0, [.int (mat_slot (mnd_attempt z2)), .int (mat_ballot (mnd_attempt z2)), .int (mat_promisers (mnd_attempt z2)), .int (mat_voters (mnd_attempt z2)), .int (mat_bestBallot (mnd_attempt z2)), .int (mat_bestCommand (mnd_attempt z2)), .int (mat_command (mnd_attempt z2))]))]) (km_rVN (n := 1) hE kmG (c_St_isDone l D cI cN cZ (fun j => a2 (j + 1)) (mnd_state z2) x1 _ hw) mw_232 (km_nM hK 8 rfl) mw_231 mp_3 mw_3 (by decide) ⟨rfl, rfl, ⟨by decide, by decide⟩, by decide, by decide⟩ hK (km_cut hP [9, 10, 11] rfl) (hD.sub [9, 10, 11] (by decide) rfl) (ci := 4) rfl hP (q0 := 9) rfl rfl hl.1 rfl (Nat.le_of_ble_eq_true rfl) d_Ch_route_82) hP hD hS hA [9, 10, 11] [0, 1, 2, 3, 4, 5, 6, 7, 8, 12, 13, 14, 15, 16, 17] rfl rfl (by decide) (by decide) (fun r9 u10 H locs hw hP hD hS => ?_)
            have hP := hP.sub (ws' := (mchW cI cN cZ a1 g (mch_s_book z1 u2) ++ mndW cI cN cZ a2 (mnd_s_state z2 u10))) [0, 1, 2, 3, 4, 5, 6, 7, 8, 15, 16, 17, 9, 10, 11, 12, 13, 14] rfl
            have hD := hD.sub (ws' := (mchW cI cN cZ a1 g (mch_s_book z1 u2) ++ mndW cI cN cZ a2 (mnd_s_state z2 u10))) [0, 1, 2, 3, 4, 5, 6, 7, 8, 15, 16, 17, 9, 10, 11, 12, 13, 14] (by decide) rfl
            refine lv_if_eq (tgt := 113) hx hb d_Ch_route_85 (by first | rfl | decide) (fun h11 => ?_) (fun h11 => ?_)
            · have hw := hw.1 h11
              refine lv_aload hx hb d_Ch_route_113 (lv_at hl 0 rfl) ?_
              refine lv_iload_n hx hb d_Ch_route_115 rfl (lv_at hl 4 rfl) ?_
              refine km_ci (wr := [(a1 0, .inr (5, [.ref (a1 1), .ref (a1 2), .ref (a1 6), .ref (a1 7), .int (mch_routerConfiguration (mch_s_book z1 u2))])), (a1 1, .inl (cN, 6, .inr (.inr (.inr (.inr g))))), (a1 2, .inr (3, [.ref (a1 3), .ref (a1 4), .ref (a1 5), .int (mbk_count (mch_book (mch_s_book z1 u2)))])), (a1 3, .inl (cI, 31, .inl (mbk_kinds (mch_book (mch_s_book z1 u2))))), (a1 4, .inl (cI, 31, .inl (mbk_keys (mch_book (mch_s_book z1 u2))))), (a1 5, .inl (cI, 31, .inl (mbk_numbers (mch_book (mch_s_book z1 u2))))), (a1 6, .inl (cI, 31, .inl (mch_heardAnswers (mch_s_book z1 u2)))), (a1 7, .inl (cI, 31, .inl (mch_heardCounts (mch_s_book z1 u2)))), (a2 0, .inr (2, [.int (mnd_number (mnd_s_state z2 u10)), .int (mnd_up (mnd_s_state z2 u10)), .ref (a2 1), .ref (a2 4), .int (mnd_last (mnd_s_state z2 u10)), .int (mnd_retired (mnd_s_state z2 u10)), .ref (a2 8), .int (mnd_pending (mnd_s_state z2 u10)), .ref (a2 9)])), (a2 4, .inr (1, [.ref (a2 5), .ref (a2 6), .ref (a2 7)])), (a2 5, .inl (cI, 40, .inl (mlg_promisedBallots (mnd_ledger (mnd_s_state z2 u10))))), (a2 6, .inl (cI, 40, .inl (mlg_voteBallots (mnd_ledger (mnd_s_state z2 u10))))), (a2 7, .inl (cI, 40, .inl (mlg_voteCommands (mnd_ledger (mnd_s_state z2 u10))))), (a2 8, .inl (cI, 9, .inl (mnd_knownCommands (mnd_s_state z2 u10)))), (a2 9, .inr (0, [.int (mat_slot (mnd_attempt (mnd_s_state z2 u10))), .int (mat_ballot (mnd_attempt (mnd_s_state z2 u10))), .int (mat_promisers (mnd_attempt (mnd_s_state z2 u10))), .int (mat_voters (mnd_attempt (mnd_s_state z2 u10))), .int (mat_bestBallot (mnd_attempt (mnd_s_state z2 u10))), .int (mat_bestCommand (mnd_attempt (mnd_s_state z2 u10))), .int (mat_command (mnd_attempt (mnd_s_state z2 u10)))]))]) (km_rVN (n := 1) hE kmG (c_St_hasMember l D cI cN cZ (fun j => a2 (j + 1)) u10 x2 _ hw) mw_236 (km_nM hK 9 rfl) mw_235 mp_4 mw_3 (by decide) ⟨rfl, rfl, ⟨by decide, by decide⟩, by decide, by decide⟩ hK (km_cut hP [9, 10, 11] rfl) (hD.sub [9, 10, 11] (by decide) rfl) (ci := 4) rfl hP (q0 := 9) rfl rfl hl.1 rfl (Nat.le_of_ble_eq_true rfl) d_Ch_route_116) hP hD hS hA [9, 10, 11] [0, 1, 2, 3, 4, 5, 6, 7, 8, 12, 13, 14, 15, 16, 17] rfl rfl (by decide) (by decide) (fun r12 u13 H locs hw hP hD hS => ?_)
              have hP := hP.sub (ws' := (mchW cI cN cZ a1 g (mch_s_book z1 u2) ++ mndW cI cN cZ a2 (mnd_s_state (mnd_s_state z2 u10) u13))) [0, 1, 2, 3, 4, 5, 6, 7, 8, 15, 16, 17, 9, 10, 11, 12, 13, 14] rfl
              have hD := hD.sub (ws' := (mchW cI cN cZ a1 g (mch_s_book z1 u2) ++ mndW cI cN cZ a2 (mnd_s_state (mnd_s_state z2 u10) u13))) [0, 1, 2, 3, 4, 5, 6, 7, 8, 15, 16, 17, 9, 10, 11, 12, 13, 14] (by decide) rfl
              refine lv_if_ne (tgt := 124) hx hb d_Ch_route_119 (by first | rfl | decide) (fun h14 => ?_) (fun h14 => ?_)
              · have hw := hw.2 h14
                refine lv_aload_n hx hb d_Ch_route_124 rfl (lv_at hl 1 rfl) ?_
                refine lv_iload_n hx hb d_Ch_route_125 rfl (lv_at hl 3 rfl) ?_
                refine va_putN (D := D) (ci := 2) (v := .int x1) (ty := .int) (C := R_Nd) (T := F_Nd) (N := 9) hx hb hts iw_Nd t_Nd t_Nd_ok n_Nd hown hK.1 hP hD hS 8 rfl rfl 7 (by decide) (km_nF hK 26 rfl) (fun _ h => h) rfl (t_Nd_ok 7 (by decide)) rfl rfl (Nat.le_of_ble_eq_true rfl) d_Ch_route_126 (fun H locs hP hD hS => ?_)
                have hP : va_P D kmC (mchW cI cN cZ a1 g (mch_s_book z1 u2) ++ mndW cI cN cZ a2 (mnd_s_pending (mnd_s_state (mnd_s_state z2 u10) u13) x1)) H := hP
                have hD : va_D A (mchW cI cN cZ a1 g (mch_s_book z1 u2) ++ mndW cI cN cZ a2 (mnd_s_pending (mnd_s_state (mnd_s_state z2 u10) u13) x1)) := hD
                refine lv_iconst (v := (2 : Int32)) hx hb d_Ch_route_129 (by decide) ?_
                exact W.iret (v := (2 : Int32)) hx hb hr (fun t ht hW => ⟨⟨(2 : Int32), ((mch_s_book z1 u2), (mnd_s_pending (mnd_s_state (mnd_s_state z2 u10) u13) x1)), rfl, hw, by rw [ht]; exact hP, hD⟩, hS.F ht⟩) hS.2.2 d_Ch_route_130
              · have hw := hw.1 h14
                refine lv_iconst (v := (3 : Int32)) hx hb d_Ch_route_122 (by decide) ?_
                exact W.iret (v := (3 : Int32)) hx hb hr (fun t ht hW => ⟨⟨(3 : Int32), ((mch_s_book z1 u2), (mnd_s_state (mnd_s_state z2 u10) u13)), rfl, hw, by rw [ht]; exact hP, hD⟩, hS.F ht⟩) hS.2.2 d_Ch_route_123
            · have hw := hw.2 h11
              refine lv_aload_n hx hb d_Ch_route_88 rfl (lv_at hl 2 rfl) ?_
              refine va_get (D := D) (ci := 5) (v := .ref (a1 6)) (C := R_Ch) (T := F_Ch) (N := 5) hx hb hts iw_Ch hown hK.1 hP 0 rfl rfl 2 (by decide) (hts _ mw_180) (fun _ h => h) rfl d_Ch_route_89 ?_
              refine lv_iload_n hx hb d_Ch_route_92 rfl (lv_at hl 3 rfl) ?_
              refine lv_aload hx hb d_Ch_route_93 (lv_at hl 0 rfl) ?_
              refine va_getN (D := D) (ci := 4) (v := .ref (a2 3)) (C := R_St) (T := F_St) (N := 6) hx hb hts iw_St hown hK.1 hP 9 rfl rfl 5 (by decide) (km_nF hK 6 rfl) (fun _ h => h) rfl d_Ch_route_95 ?_
              refine lv_iload_n hx hb d_Ch_route_98 rfl (lv_at hl 3 rfl) ?_
              obtain ⟨hin, hw⟩ := hw
              refine va_iald (f := (mst_answers u10)) hx hb hK.1 hP 11 0 rfl rfl hin d_Ch_route_99 ?_
              obtain ⟨hin, hw⟩ := hw
              refine va_iast (f := (mch_heardAnswers z1)) hx hb hK.1 hP hD hS 6 0 rfl rfl hin d_Ch_route_100 (fun H locs hP hD hS => ?_)
              have hP : va_P D kmC (mchW cI cN cZ a1 g (mch_s_heardAnswers (mch_s_book z1 u2) (upd (mch_heardAnswers z1) (x1).toNatClampNeg ((mst_answers u10) (x1).toNatClampNeg))) ++ mndW cI cN cZ a2 (mnd_s_state z2 u10)) H := hP
              have hD : va_D A (mchW cI cN cZ a1 g (mch_s_heardAnswers (mch_s_book z1 u2) (upd (mch_heardAnswers z1) (x1).toNatClampNeg ((mst_answers u10) (x1).toNatClampNeg))) ++ mndW cI cN cZ a2 (mnd_s_state z2 u10)) := hD
              refine lv_aload_n hx hb d_Ch_route_101 rfl (lv_at hl 2 rfl) ?_
              refine va_get (D := D) (ci := 5) (v := .ref (a1 7)) (C := R_Ch) (T := F_Ch) (N := 5) hx hb hts iw_Ch hown hK.1 hP 0 rfl rfl 3 (by decide) (hts _ mw_181) (fun _ h => h) rfl d_Ch_route_102 ?_
              refine lv_iload_n hx hb d_Ch_route_105 rfl (lv_at hl 3 rfl) ?_
              refine lv_dup2_11 hx hb d_Ch_route_106 rfl rfl ?_
              obtain ⟨hin, hw⟩ := hw
              refine va_iald (f := (mch_heardCounts z1)) hx hb hK.1 hP 7 0 rfl rfl hin d_Ch_route_107 ?_
              refine lv_iconst (v := (1 : Int32)) hx hb d_Ch_route_108 (by decide) ?_
              refine lv_iadd hx hb d_Ch_route_109 ?_
              obtain ⟨hin, hw⟩ := hw
              refine va_iast (f := (mch_heardCounts z1)) hx hb hK.1 hP hD hS 7 0 rfl rfl hin d_Ch_route_110 (fun H locs hP hD hS => ?_)
              have hP : va_P D kmC (mchW cI cN cZ a1 g (mch_s_heardCounts (mch_s_heardAnswers (mch_s_book z1 u2) (upd (mch_heardAnswers z1) (x1).toNatClampNeg ((mst_answers u10) (x1).toNatClampNeg))) (upd (mch_heardCounts z1) (x1).toNatClampNeg (((mch_heardCounts z1) (x1).toNatClampNeg) + (1 : Int32)))) ++ mndW cI cN cZ a2 (mnd_s_state z2 u10)) H := hP
              have hD : va_D A (mchW cI cN cZ a1 g (mch_s_heardCounts (mch_s_heardAnswers (mch_s_book z1 u2) (upd (mch_heardAnswers z1) (x1).toNatClampNeg ((mst_answers u10) (x1).toNatClampNeg))) (upd (mch_heardCounts z1) (x1).toNatClampNeg (((mch_heardCounts z1) (x1).toNatClampNeg) + (1 : Int32)))) ++ mndW cI cN cZ a2 (mnd_s_state z2 u10)) := hD
              refine lv_iconst (v := (1 : Int32)) hx hb d_Ch_route_111 (by decide) ?_
              exact W.iret (v := (1 : Int32)) hx hb hr (fun t ht hW => ⟨⟨(1 : Int32), ((mch_s_heardCounts (mch_s_heardAnswers (mch_s_book z1 u2) (upd (mch_heardAnswers z1) (x1).toNatClampNeg ((mst_answers u10) (x1).toNatClampNeg))) (upd (mch_heardCounts z1) (x1).toNatClampNeg (((mch_heardCounts z1) (x1).toNatClampNeg) + (1 : Int32)))), (mnd_s_state z2 u10)), rfl, hw, by rw [ht]; exact hP, hD⟩, hS.F ht⟩) hS.2.2 d_Ch_route_112
          · have hw := hw.2 h8
            refine lv_aload_n hx hb d_Ch_route_68 rfl (lv_at hl 2 rfl) ?_
            refine lv_aload hx hb d_Ch_route_69 (lv_at hl 0 rfl) ?_
            refine va_getN (D := D) (ci := 4) (v := .int (mst_configuration (mnd_state z2))) (C := R_St) (T := F_St) (N := 6) hx hb hts iw_St hown hK.1 hP 9 rfl rfl 0 (by decide) (km_nF hK 0 rfl) (fun _ h => h) rfl d_Ch_route_71 ?_
            refine va_put (D := D) (ci := 5) (v := .int (mst_configuration (mnd_state z2))) (ty := .int) (C := R_Ch) (T := F_Ch) (N := 5) hx hb hts iw_Ch t_Ch t_Ch_ok n_Ch hown hK.1 hP hD hS 0 rfl rfl 4 (by decide) (hts _ mw_182) (fun _ h => h) rfl (t_Ch_ok 4 (by decide)) rfl rfl (Nat.le_of_ble_eq_true rfl) d_Ch_route_74 (fun H locs hP hD hS => ?_)
            have hP : va_P D kmC (mchW cI cN cZ a1 g (mch_s_routerConfiguration (mch_s_book z1 u2) (mst_configuration (mnd_state z2))) ++ mndW cI cN cZ a2 z2) H := hP
            have hD : va_D A (mchW cI cN cZ a1 g (mch_s_routerConfiguration (mch_s_book z1 u2) (mst_configuration (mnd_state z2))) ++ mndW cI cN cZ a2 z2) := hD
            refine lv_iconst (v := (5 : Int32)) hx hb d_Ch_route_77 (by decide) ?_
            exact W.iret (v := (5 : Int32)) hx hb hr (fun t ht hW => ⟨⟨(5 : Int32), ((mch_s_routerConfiguration (mch_s_book z1 u2) (mst_configuration (mnd_state z2))), z2), rfl, hw, by rw [ht]; exact hP, hD⟩, hS.F ht⟩) hS.2.2 d_Ch_route_78
        · have hw := hw.2 h7
          refine lv_iconst (v := (4 : Int32)) hx hb d_Ch_route_54 (by decide) ?_
          exact W.iret (v := (4 : Int32)) hx hb hr (fun t ht hW => ⟨⟨(4 : Int32), ((mch_s_book z1 u2), z2), rfl, hw, by rw [ht]; exact hP, hD⟩, hS.F ht⟩) hS.2.2 d_Ch_route_55
      · have hw := hw.1 h6
        refine lv_iconst (v := (0 : Int32)) hx hb d_Ch_route_34 (by decide) ?_
        exact W.iret (v := (0 : Int32)) hx hb hr (fun t ht hW => ⟨⟨(0 : Int32), ((mch_s_book z1 u2), z2), rfl, hw, by rw [ht]; exact hP, hD⟩, hS.F ht⟩) hS.2.2 d_Ch_route_35
    · have hw := hw.1 h5
      refine lv_iconst (v := (-1 : Int32)) hx hb d_Ch_route_18 (by decide) ?_
      exact W.iret (v := (-1 : Int32)) hx hb hr (fun t ht hW => ⟨⟨(-1 : Int32), ((mch_s_book z1 u2), z2), rfl, hw, by rw [ht]; exact hP, hD⟩, hS.F ht⟩) hS.2.2 d_Ch_route_19
set_option maxHeartbeats 4000000 in
set_option maxRecDepth 100000 in
theorem c_Ch_start (l : Launch) (D : va_G) (cI cN cZ : ClassId) (a1 : Nat → Nat) (a2 : Nat → Nat) (g : Nat → Option Nat) (k2 : Nat) (hk2 : k2 < 6) (hg2 : g k2 = some (a2 0)) (z1 : MchT) (z2 : MndT) (x1 : Int32) (x2 : Int32) (post : Int32 → MchT → MndT → Prop) (hw : wp_Ch_start k2 z1 z2 x1 x2 post) : km_I l y_Ch_start (.code y_Ch_start b_Ch_start 4 (some .int) :: kmW) rm_Ch_start D kmC (kmT cI cN cZ) kmF kmM [.ref (a1 0), .int x1, .int x2] (mchW cI cN cZ a1 g z1 ++ mndW cI cN cZ a2 z2) (fun (r : Int32) (u : MchT × MndT) => post r u.1 u.2) (fun (u : MchT × MndT) => (mchW cI cN cZ a1 g u.1 ++ mndW cI cN cZ a2 u.2)) 0 0 := by
  refine km_startI (cc := b_Ch_start) (maxL := 4) (ret := (some .int)) (by decide) rfl (Nat.le_of_ble_eq_true rfl) ?_
  intro p e s m below meth c A ls hE hA hK hP hD hS hl
  obtain ⟨hx, hb, hr, hml, hown, hts0, hlk, hnm⟩ := id hE
  have hts : ∀ w ∈ kmW, w.before ([.ref (a1 0), .int x1, .int x2] : List Value).toArray s = true := fun w h => hts0 w (List.mem_cons_of_mem _ h)
  have hP : va_P D kmC (mchW cI cN cZ a1 g z1 ++ mndW cI cN cZ a2 z2) s.heap := hP
  have hl : lv_has ls 4 [(0, .ref (a1 0)), (1, .int x1), (2, .int x2)] := hl
  unfold wp_Ch_start at hw
  refine lv_iload_n hx hb d_Ch_start_0 rfl (lv_at hl 1 rfl) ?_
  refine km_ci (wr := [(a1 0, .inr (5, [.ref (a1 1), .ref (a1 2), .ref (a1 6), .ref (a1 7), .int (mch_routerConfiguration z1)])), (a1 1, .inl (cN, 6, .inr (.inr (.inr (.inr g))))), (a1 2, .inr (3, [.ref (a1 3), .ref (a1 4), .ref (a1 5), .int (mbk_count (mch_book z1))])), (a1 3, .inl (cI, 31, .inl (mbk_kinds (mch_book z1)))), (a1 4, .inl (cI, 31, .inl (mbk_keys (mch_book z1)))), (a1 5, .inl (cI, 31, .inl (mbk_numbers (mch_book z1)))), (a1 6, .inl (cI, 31, .inl (mch_heardAnswers z1))), (a1 7, .inl (cI, 31, .inl (mch_heardCounts z1))), (a2 0, .inr (2, [.int (mnd_number z2), .int (mnd_up z2), .ref (a2 1), .ref (a2 4), .int (mnd_last z2), .int (mnd_retired z2), .ref (a2 8), .int (mnd_pending z2), .ref (a2 9)])), (a2 1, .inr (4, [.int (mst_configuration (mnd_state z2)), .int (mst_membership (mnd_state z2)), .int (mst_executed (mnd_state z2)), .ref (a2 2), .int (mst_doneBits (mnd_state z2)), .ref (a2 3)])), (a2 2, .inl (cI, 4, .inl (mst_values (mnd_state z2)))), (a2 3, .inl (cI, 31, .inl (mst_answers (mnd_state z2)))), (a2 4, .inr (1, [.ref (a2 5), .ref (a2 6), .ref (a2 7)])), (a2 5, .inl (cI, 40, .inl (mlg_promisedBallots (mnd_ledger z2)))), (a2 6, .inl (cI, 40, .inl (mlg_voteBallots (mnd_ledger z2)))), (a2 7, .inl (cI, 40, .inl (mlg_voteCommands (mnd_ledger z2)))), (a2 8, .inl (cI, 9, .inl (mnd_knownCommands z2))), (a2 9, .inr (0, [.int (mat_slot (mnd_attempt z2)), .int (mat_ballot (mnd_attempt z2)), .int (mat_promisers (mnd_attempt z2)), .int (mat_voters (mnd_attempt z2)), .int (mat_bestBallot (mnd_attempt z2)), .int (mat_bestCommand (mnd_attempt z2)), .int (mat_command (mnd_attempt z2))]))]) (km_rS (n := 1) hE kmG (c_Ch_isNode l D cI cN cZ x1 _ hw) mw_228 mw_226 mw_227 mw_1 (by decide) ⟨rfl, rfl, ⟨by decide, by decide⟩, by decide, by decide⟩ hK (km_cut hP [] rfl) (hD.sub [] (by decide) rfl) rfl hl.1 rfl (Nat.le_of_ble_eq_true rfl) d_Ch_start_1) hP hD hS hA [] [0, 1, 2, 3, 4, 5, 6, 7, 8, 9, 10, 11, 12, 13, 14, 15, 16, 17] rfl rfl (by decide) (by decide) (fun r1 _ H locs hw hP hD hS => ?_)
  have hP := hP.sub (ws' := (mchW cI cN cZ a1 g z1 ++ mndW cI cN cZ a2 z2)) [0, 1, 2, 3, 4, 5, 6, 7, 8, 9, 10, 11, 12, 13, 14, 15, 16, 17] rfl
  have hD := hD.sub (ws' := (mchW cI cN cZ a1 g z1 ++ mndW cI cN cZ a2 z2)) [0, 1, 2, 3, 4, 5, 6, 7, 8, 9, 10, 11, 12, 13, 14, 15, 16, 17] (by decide) rfl
  refine lv_if_ne (tgt := 9) hx hb d_Ch_start_4 (by first | rfl | decide) (fun h2 => ?_) (fun h2 => ?_)
  · have hw := hw.2 h2
    refine lv_aload_n hx hb d_Ch_start_9 rfl (lv_at hl 0 rfl) ?_
    refine va_get (D := D) (ci := 5) (v := .ref (a1 1)) (C := R_Ch) (T := F_Ch) (N := 5) hx hb hts iw_Ch hown hK.1 hP 0 rfl rfl 0 (by decide) (hts _ mw_178) (fun _ h => h) rfl d_Ch_start_10 ?_
    refine lv_iload_n hx hb d_Ch_start_13 rfl (lv_at hl 1 rfl) ?_
    obtain ⟨hk, hw⟩ := hw
    refine km_ald hx hb hK.1 hP 1 1 rfl rfl hk hk2 (by decide) hg2 d_Ch_start_14 ?_
    refine lv_astore_n (lv' := [(3, .ref (a2 0)), (0, .ref (a1 0)), (1, .int x1), (2, .int x2)]) hx hb d_Ch_start_15 rfl hl (by decide) rfl (fun ls hl => ?_)
    refine lv_aload_n hx hb d_Ch_start_16 rfl (lv_at hl 0 rfl) ?_
    refine va_getN (D := D) (ci := 2) (v := .int (mnd_up z2)) (C := R_Nd) (T := F_Nd) (N := 9) hx hb hts iw_Nd hown hK.1 hP 8 rfl rfl 1 (by decide) (km_nF hK 20 rfl) (fun _ h => h) rfl d_Ch_start_17 ?_
    refine lv_if_eq (tgt := 31) hx hb d_Ch_start_20 (by first | rfl | decide) (fun h3 => ?_) (fun h3 => ?_)
    · have hw := hw.1 h3
      refine lv_iconst (v := (0 : Int32)) hx hb d_Ch_start_31 (by decide) ?_
      exact W.iret (v := (0 : Int32)) hx hb hr (fun t ht hW => ⟨⟨(0 : Int32), (z1, z2), rfl, hw, by rw [ht]; exact hP, hD⟩, hS.F ht⟩) hS.2.2 d_Ch_start_32
    · have hw := hw.2 h3
      refine lv_aload_n hx hb d_Ch_start_23 rfl (lv_at hl 0 rfl) ?_
      refine lv_iload_n hx hb d_Ch_start_24 rfl (lv_at hl 3 rfl) ?_
      refine km_ci (wr := [(a1 0, .inr (5, [.ref (a1 1), .ref (a1 2), .ref (a1 6), .ref (a1 7), .int (mch_routerConfiguration z1)])), (a1 1, .inl (cN, 6, .inr (.inr (.inr (.inr g))))), (a1 2, .inr (3, [.ref (a1 3), .ref (a1 4), .ref (a1 5), .int (mbk_count (mch_book z1))])), (a1 3, .inl (cI, 31, .inl (mbk_kinds (mch_book z1)))), (a1 4, .inl (cI, 31, .inl (mbk_keys (mch_book z1)))), (a1 5, .inl (cI, 31, .inl (mbk_numbers (mch_book z1)))), (a1 6, .inl (cI, 31, .inl (mch_heardAnswers z1))), (a1 7, .inl (cI, 31, .inl (mch_heardCounts z1)))]) (km_rVN (n := 1) hE kmG (c_Nd_mayAttempt l D cI cN cZ a2 z2 x2 _ hw) mw_248 (km_nM hK 10 rfl) mw_247 mp_5 mw_2 (by decide) ⟨rfl, rfl, ⟨by decide, by decide⟩, by decide, by decide⟩ hK (km_cut hP [8, 9, 10, 11, 12, 13, 14, 15, 16, 17] rfl) (hD.sub [8, 9, 10, 11, 12, 13, 14, 15, 16, 17] (by decide) rfl) (ci := 2) rfl hP (q0 := 8) rfl rfl hl.1 rfl (Nat.le_of_ble_eq_true rfl) d_Ch_start_25) hP hD hS hA [8, 9, 10, 11, 12, 13, 14, 15, 16, 17] [0, 1, 2, 3, 4, 5, 6, 7] rfl rfl (by decide) (by decide) (fun r4 u5 H locs hw hP hD hS => ?_)
      have hP : va_P D kmC (mchW cI cN cZ a1 g z1 ++ mndW cI cN cZ a2 u5) H := hP
      have hD : va_D A (mchW cI cN cZ a1 g z1 ++ mndW cI cN cZ a2 u5) := hD
      refine lv_if_ne (tgt := 33) hx hb d_Ch_start_28 (by first | rfl | decide) (fun h6 => ?_) (fun h6 => ?_)
      · have hw := hw.2 h6
        refine lv_aload_n hx hb d_Ch_start_33 rfl (lv_at hl 0 rfl) ?_
        refine lv_aload_n hx hb d_Ch_start_34 rfl (lv_at hl 0 rfl) ?_
        refine km_ci (wr := [(a1 0, .inr (5, [.ref (a1 1), .ref (a1 2), .ref (a1 6), .ref (a1 7), .int (mch_routerConfiguration z1)])), (a1 1, .inl (cN, 6, .inr (.inr (.inr (.inr g))))), (a1 2, .inr (3, [.ref (a1 3), .ref (a1 4), .ref (a1 5), .int (mbk_count (mch_book z1))])), (a1 3, .inl (cI, 31, .inl (mbk_kinds (mch_book z1)))), (a1 4, .inl (cI, 31, .inl (mbk_keys (mch_book z1)))), (a1 5, .inl (cI, 31, .inl (mbk_numbers (mch_book z1)))), (a1 6, .inl (cI, 31, .inl (mch_heardAnswers z1))), (a1 7, .inl (cI, 31, .inl (mch_heardCounts z1)))]) (km_rVN (n := 0) hE kmG (c_Nd_leastBallotAboveLast l D cI cN cZ a2 u5 _ hw) mw_259 (km_nM hK 12 rfl) mw_258 mp_7 mw_2 (by decide) ⟨rfl, rfl, ⟨by decide, by decide⟩, by decide, by decide⟩ hK (km_cut hP [8, 9, 10, 11, 12, 13, 14, 15, 16, 17] rfl) (hD.sub [8, 9, 10, 11, 12, 13, 14, 15, 16, 17] (by decide) rfl) (ci := 2) rfl hP (q0 := 8) rfl rfl hl.1 rfl (Nat.le_of_ble_eq_true rfl) d_Ch_start_35) hP hD hS hA [8, 9, 10, 11, 12, 13, 14, 15, 16, 17] [0, 1, 2, 3, 4, 5, 6, 7] rfl rfl (by decide) (by decide) (fun r7 u8 H locs hw hP hD hS => ?_)
        have hP : va_P D kmC (mchW cI cN cZ a1 g z1 ++ mndW cI cN cZ a2 u8) H := hP
        have hD : va_D A (mchW cI cN cZ a1 g z1 ++ mndW cI cN cZ a2 u8) := hD
        refine va_putN (D := D) (ci := 2) (v := .int r7) (ty := .int) (C := R_Nd) (T := F_Nd) (N := 9) hx hb hts iw_Nd t_Nd t_Nd_ok n_Nd hown hK.1 hP hD hS 8 rfl rfl 4 (by decide) (km_nF hK 23 rfl) (fun _ h => h) rfl (t_Nd_ok 4 (by decide)) rfl rfl (Nat.le_of_ble_eq_true rfl) d_Ch_start_38 (fun H locs hP hD hS => ?_)
        have hP : va_P D kmC (mchW cI cN cZ a1 g z1 ++ mndW cI cN cZ a2 (mnd_s_last u8 r7)) H := hP
        have hD : va_D A (mchW cI cN cZ a1 g z1 ++ mndW cI cN cZ a2 (mnd_s_last u8 r7)) := hD
        refine lv_aload_n hx hb d_Ch_start_41 rfl (lv_at hl 0 rfl) ?_
        refine va_getN (D := D) (ci := 2) (v := .ref (a2 9)) (C := R_Nd) (T := F_Nd) (N := 9) hx hb hts iw_Nd hown hK.1 hP 8 rfl rfl 8 (by decide) (km_nF hK 27 rfl) (fun _ h => h) rfl d_Ch_start_42 ?_
        refine lv_iload_n hx hb d_Ch_start_45 rfl (lv_at hl 3 rfl) ?_
        refine lv_aload_n hx hb d_Ch_start_46 rfl (lv_at hl 0 rfl) ?_
        refine va_getN (D := D) (ci := 2) (v := .int r7) (C := R_Nd) (T := F_Nd) (N := 9) hx hb hts iw_Nd hown hK.1 hP 8 rfl rfl 4 (by decide) (km_nF hK 23 rfl) (fun _ h => h) rfl d_Ch_start_47 ?_
        refine km_cv (wr := [(a1 0, .inr (5, [.ref (a1 1), .ref (a1 2), .ref (a1 6), .ref (a1 7), .int (mch_routerConfiguration z1)])), (a1 1, .inl (cN, 6, .inr (.inr (.inr (.inr g))))), (a1 2, .inr (3, [.ref (a1 3), .ref (a1 4), .ref (a1 5), .int (mbk_count (mch_book z1))])), (a1 3, .inl (cI, 31, .inl (mbk_kinds (mch_book z1)))), (a1 4, .inl (cI, 31, .inl (mbk_keys (mch_book z1)))), (a1 5, .inl (cI, 31, .inl (mbk_numbers (mch_book z1)))), (a1 6, .inl (cI, 31, .inl (mch_heardAnswers z1))), (a1 7, .inl (cI, 31, .inl (mch_heardCounts z1))), (a2 0, .inr (2, [.int (mnd_number (mnd_s_last u8 r7)), .int (mnd_up (mnd_s_last u8 r7)), .ref (a2 1), .ref (a2 4), .int (mnd_last (mnd_s_last u8 r7)), .int (mnd_retired (mnd_s_last u8 r7)), .ref (a2 8), .int (mnd_pending (mnd_s_last u8 r7)), .ref (a2 9)])), (a2 1, .inr (4, [.int (mst_configuration (mnd_state (mnd_s_last u8 r7))), .int (mst_membership (mnd_state (mnd_s_last u8 r7))), .int (mst_executed (mnd_state (mnd_s_last u8 r7))), .ref (a2 2), .int (mst_doneBits (mnd_state (mnd_s_last u8 r7))), .ref (a2 3)])), (a2 2, .inl (cI, 4, .inl (mst_values (mnd_state (mnd_s_last u8 r7))))), (a2 3, .inl (cI, 31, .inl (mst_answers (mnd_state (mnd_s_last u8 r7))))), (a2 4, .inr (1, [.ref (a2 5), .ref (a2 6), .ref (a2 7)])), (a2 5, .inl (cI, 40, .inl (mlg_promisedBallots (mnd_ledger (mnd_s_last u8 r7))))), (a2 6, .inl (cI, 40, .inl (mlg_voteBallots (mnd_ledger (mnd_s_last u8 r7))))), (a2 7, .inl (cI, 40, .inl (mlg_voteCommands (mnd_ledger (mnd_s_last u8 r7))))), (a2 8, .inl (cI, 9, .inl (mnd_knownCommands (mnd_s_last u8 r7))))]) (km_rVN (n := 2) hE kmG (c_At_begin l D cI cN cZ (fun j => a2 (j + 9)) (mnd_attempt u8) x2 r7 _ hw) mw_266 (km_nM hK 13 rfl) mw_265 mp_8 mw_5 (by decide) ⟨rfl, rfl, ⟨by decide, by decide⟩, by decide, by decide⟩ hK (km_cut hP [17] rfl) (hD.sub [17] (by decide) rfl) (ci := 0) rfl hP (q0 := 17) rfl rfl hl.1 rfl (Nat.le_of_ble_eq_true rfl) d_Ch_start_50) hP hD hS hA [17] [0, 1, 2, 3, 4, 5, 6, 7, 8, 9, 10, 11, 12, 13, 14, 15, 16] rfl rfl (by decide) (by decide) (fun u10 H locs hw hP hD hS => ?_)
        have hP : va_P D kmC (mchW cI cN cZ a1 g z1 ++ mndW cI cN cZ a2 (mnd_s_attempt (mnd_s_last u8 r7) u10)) H := hP
        have hD : va_D A (mchW cI cN cZ a1 g z1 ++ mndW cI cN cZ a2 (mnd_s_attempt (mnd_s_last u8 r7) u10)) := hD
        refine lv_aload_n hx hb d_Ch_start_53 rfl (lv_at hl 0 rfl) ?_
        refine va_getN (D := D) (ci := 2) (v := .int r7) (C := R_Nd) (T := F_Nd) (N := 9) hx hb hts iw_Nd hown hK.1 hP 8 rfl rfl 4 (by decide) (km_nF hK 23 rfl) (fun _ h => h) rfl d_Ch_start_54 ?_
        exact W.iret (v := r7) hx hb hr (fun t ht hW => ⟨⟨r7, (z1, (mnd_s_attempt (mnd_s_last u8 r7) u10)), rfl, hw, by rw [ht]; exact hP, hD⟩, hS.F ht⟩) hS.2.2 d_Ch_start_57
      · have hw := hw.1 h6
        refine lv_iconst (v := (0 : Int32)) hx hb d_Ch_start_31 (by decide) ?_
        exact W.iret (v := (0 : Int32)) hx hb hr (fun t ht hW => ⟨⟨(0 : Int32), (z1, u5), rfl, hw, by rw [ht]; exact hP, hD⟩, hS.F ht⟩) hS.2.2 d_Ch_start_32
  · have hw := hw.1 h2
    refine lv_iconst (v := (-1 : Int32)) hx hb d_Ch_start_7 (by decide) ?_
    exact W.iret (v := (-1 : Int32)) hx hb hr (fun t ht hW => ⟨⟨(-1 : Int32), (z1, z2), rfl, hw, by rw [ht]; exact hP, hD⟩, hS.F ht⟩) hS.2.2 d_Ch_start_8
set_option maxHeartbeats 4000000 in
set_option maxRecDepth 100000 in
theorem c_Ch_crash (l : Launch) (D : va_G) (cI cN cZ : ClassId) (a1 : Nat → Nat) (a2 : Nat → Nat) (g : Nat → Option Nat) (k2 : Nat) (hk2 : k2 < 6) (hg2 : g k2 = some (a2 0)) (z1 : MchT) (z2 : MndT) (x1 : Int32) (post : Int32 → MchT → MndT → Prop) (hw : wp_Ch_crash k2 z1 z2 x1 post) : km_I l y_Ch_crash (.code y_Ch_crash b_Ch_crash 2 (some .boolean) :: kmW) rm_Ch_crash D kmC (kmT cI cN cZ) kmF kmM [.ref (a1 0), .int x1] (mchW cI cN cZ a1 g z1 ++ mndW cI cN cZ a2 z2) (fun (r : Int32) (u : MchT × MndT) => post r u.1 u.2) (fun (u : MchT × MndT) => (mchW cI cN cZ a1 g u.1 ++ mndW cI cN cZ a2 u.2)) 0 0 := by
  refine km_startI (cc := b_Ch_crash) (maxL := 2) (ret := (some .boolean)) (by decide) rfl (Nat.le_of_ble_eq_true rfl) ?_
  intro p e s m below meth c A ls hE hA hK hP hD hS hl
  obtain ⟨hx, hb, hr, hml, hown, hts0, hlk, hnm⟩ := id hE
  have hts : ∀ w ∈ kmW, w.before ([.ref (a1 0), .int x1] : List Value).toArray s = true := fun w h => hts0 w (List.mem_cons_of_mem _ h)
  have hP : va_P D kmC (mchW cI cN cZ a1 g z1 ++ mndW cI cN cZ a2 z2) s.heap := hP
  have hl : lv_has ls 2 [(0, .ref (a1 0)), (1, .int x1)] := hl
  unfold wp_Ch_crash at hw
  refine lv_iload_n hx hb d_Ch_crash_0 rfl (lv_at hl 1 rfl) ?_
  refine km_ci (wr := [(a1 0, .inr (5, [.ref (a1 1), .ref (a1 2), .ref (a1 6), .ref (a1 7), .int (mch_routerConfiguration z1)])), (a1 1, .inl (cN, 6, .inr (.inr (.inr (.inr g))))), (a1 2, .inr (3, [.ref (a1 3), .ref (a1 4), .ref (a1 5), .int (mbk_count (mch_book z1))])), (a1 3, .inl (cI, 31, .inl (mbk_kinds (mch_book z1)))), (a1 4, .inl (cI, 31, .inl (mbk_keys (mch_book z1)))), (a1 5, .inl (cI, 31, .inl (mbk_numbers (mch_book z1)))), (a1 6, .inl (cI, 31, .inl (mch_heardAnswers z1))), (a1 7, .inl (cI, 31, .inl (mch_heardCounts z1))), (a2 0, .inr (2, [.int (mnd_number z2), .int (mnd_up z2), .ref (a2 1), .ref (a2 4), .int (mnd_last z2), .int (mnd_retired z2), .ref (a2 8), .int (mnd_pending z2), .ref (a2 9)])), (a2 1, .inr (4, [.int (mst_configuration (mnd_state z2)), .int (mst_membership (mnd_state z2)), .int (mst_executed (mnd_state z2)), .ref (a2 2), .int (mst_doneBits (mnd_state z2)), .ref (a2 3)])), (a2 2, .inl (cI, 4, .inl (mst_values (mnd_state z2)))), (a2 3, .inl (cI, 31, .inl (mst_answers (mnd_state z2)))), (a2 4, .inr (1, [.ref (a2 5), .ref (a2 6), .ref (a2 7)])), (a2 5, .inl (cI, 40, .inl (mlg_promisedBallots (mnd_ledger z2)))), (a2 6, .inl (cI, 40, .inl (mlg_voteBallots (mnd_ledger z2)))), (a2 7, .inl (cI, 40, .inl (mlg_voteCommands (mnd_ledger z2)))), (a2 8, .inl (cI, 9, .inl (mnd_knownCommands z2))), (a2 9, .inr (0, [.int (mat_slot (mnd_attempt z2)), .int (mat_ballot (mnd_attempt z2)), .int (mat_promisers (mnd_attempt z2)), .int (mat_voters (mnd_attempt z2)), .int (mat_bestBallot (mnd_attempt z2)), .int (mat_bestCommand (mnd_attempt z2)), .int (mat_command (mnd_attempt z2))]))]) (km_rS (n := 1) hE kmG (c_Ch_isNode l D cI cN cZ x1 _ hw) mw_228 mw_226 mw_227 mw_1 (by decide) ⟨rfl, rfl, ⟨by decide, by decide⟩, by decide, by decide⟩ hK (km_cut hP [] rfl) (hD.sub [] (by decide) rfl) rfl hl.1 rfl (Nat.le_of_ble_eq_true rfl) d_Ch_crash_1) hP hD hS hA [] [0, 1, 2, 3, 4, 5, 6, 7, 8, 9, 10, 11, 12, 13, 14, 15, 16, 17] rfl rfl (by decide) (by decide) (fun r1 _ H locs hw hP hD hS => ?_)
  have hP := hP.sub (ws' := (mchW cI cN cZ a1 g z1 ++ mndW cI cN cZ a2 z2)) [0, 1, 2, 3, 4, 5, 6, 7, 8, 9, 10, 11, 12, 13, 14, 15, 16, 17] rfl
  have hD := hD.sub (ws' := (mchW cI cN cZ a1 g z1 ++ mndW cI cN cZ a2 z2)) [0, 1, 2, 3, 4, 5, 6, 7, 8, 9, 10, 11, 12, 13, 14, 15, 16, 17] (by decide) rfl
  refine lv_if_eq (tgt := 19) hx hb d_Ch_crash_4 (by first | rfl | decide) (fun h2 => ?_) (fun h2 => ?_)
  · have hw := hw.1 h2
    refine lv_iconst (v := (0 : Int32)) hx hb d_Ch_crash_19 (by decide) ?_
    exact W.zret (ty := .boolean) (v := (0 : Int32)) hx hb hr (by decide) (fun t ht hW => ⟨⟨(0 : Int32), (z1, z2), rfl, hw, by rw [ht]; exact hP, hD⟩, hS.F ht⟩) hS.2.2 d_Ch_crash_20
  · have hw := hw.2 h2
    refine lv_aload_n hx hb d_Ch_crash_7 rfl (lv_at hl 0 rfl) ?_
    refine va_get (D := D) (ci := 5) (v := .ref (a1 1)) (C := R_Ch) (T := F_Ch) (N := 5) hx hb hts iw_Ch hown hK.1 hP 0 rfl rfl 0 (by decide) (hts _ mw_178) (fun _ h => h) rfl d_Ch_crash_8 ?_
    refine lv_iload_n hx hb d_Ch_crash_11 rfl (lv_at hl 1 rfl) ?_
    obtain ⟨hk, hw⟩ := hw
    refine km_ald hx hb hK.1 hP 1 1 rfl rfl hk hk2 (by decide) hg2 d_Ch_crash_12 ?_
    refine va_getN (D := D) (ci := 2) (v := .int (mnd_up z2)) (C := R_Nd) (T := F_Nd) (N := 9) hx hb hts iw_Nd hown hK.1 hP 8 rfl rfl 1 (by decide) (km_nF hK 20 rfl) (fun _ h => h) rfl d_Ch_crash_13 ?_
    refine lv_if_ne (tgt := 21) hx hb d_Ch_crash_16 (by first | rfl | decide) (fun h3 => ?_) (fun h3 => ?_)
    · have hw := hw.2 h3
      refine lv_aload_n hx hb d_Ch_crash_21 rfl (lv_at hl 0 rfl) ?_
      refine va_get (D := D) (ci := 5) (v := .ref (a1 1)) (C := R_Ch) (T := F_Ch) (N := 5) hx hb hts iw_Ch hown hK.1 hP 0 rfl rfl 0 (by decide) (hts _ mw_178) (fun _ h => h) rfl d_Ch_crash_22 ?_
      refine lv_iload_n hx hb d_Ch_crash_25 rfl (lv_at hl 1 rfl) ?_
      obtain ⟨hk, hw⟩ := hw
      refine km_ald hx hb hK.1 hP 1 1 rfl rfl hk hk2 (by decide) hg2 d_Ch_crash_26 ?_
      refine km_cv (wr := [(a1 0, .inr (5, [.ref (a1 1), .ref (a1 2), .ref (a1 6), .ref (a1 7), .int (mch_routerConfiguration z1)])), (a1 1, .inl (cN, 6, .inr (.inr (.inr (.inr g))))), (a1 2, .inr (3, [.ref (a1 3), .ref (a1 4), .ref (a1 5), .int (mbk_count (mch_book z1))])), (a1 3, .inl (cI, 31, .inl (mbk_kinds (mch_book z1)))), (a1 4, .inl (cI, 31, .inl (mbk_keys (mch_book z1)))), (a1 5, .inl (cI, 31, .inl (mbk_numbers (mch_book z1)))), (a1 6, .inl (cI, 31, .inl (mch_heardAnswers z1))), (a1 7, .inl (cI, 31, .inl (mch_heardCounts z1)))]) (km_rVN (n := 0) hE kmG (c_Nd_goDown l D cI cN cZ a2 z2 _ hw) mw_376 (km_nM hK 33 rfl) mw_375 mp_27 mw_2 (by decide) ⟨rfl, rfl, ⟨by decide, by decide⟩, by decide, by decide⟩ hK (km_cut hP [8, 9, 10, 11, 12, 13, 14, 15, 16, 17] rfl) (hD.sub [8, 9, 10, 11, 12, 13, 14, 15, 16, 17] (by decide) rfl) (ci := 2) rfl hP (q0 := 8) rfl rfl hl.1 rfl (Nat.le_of_ble_eq_true rfl) d_Ch_crash_27) hP hD hS hA [8, 9, 10, 11, 12, 13, 14, 15, 16, 17] [0, 1, 2, 3, 4, 5, 6, 7] rfl rfl (by decide) (by decide) (fun u5 H locs hw hP hD hS => ?_)
      have hP : va_P D kmC (mchW cI cN cZ a1 g z1 ++ mndW cI cN cZ a2 u5) H := hP
      have hD : va_D A (mchW cI cN cZ a1 g z1 ++ mndW cI cN cZ a2 u5) := hD
      refine lv_iconst (v := (1 : Int32)) hx hb d_Ch_crash_30 (by decide) ?_
      exact W.zret (ty := .boolean) (v := (1 : Int32)) hx hb hr (by decide) (fun t ht hW => ⟨⟨(1 : Int32), (z1, u5), rfl, hw, by rw [ht]; exact hP, hD⟩, hS.F ht⟩) hS.2.2 d_Ch_crash_31
    · have hw := hw.1 h3
      refine lv_iconst (v := (0 : Int32)) hx hb d_Ch_crash_19 (by decide) ?_
      exact W.zret (ty := .boolean) (v := (0 : Int32)) hx hb hr (by decide) (fun t ht hW => ⟨⟨(0 : Int32), (z1, z2), rfl, hw, by rw [ht]; exact hP, hD⟩, hS.F ht⟩) hS.2.2 d_Ch_crash_20
set_option maxHeartbeats 4000000 in
set_option maxRecDepth 100000 in
theorem c_Ch_restart (l : Launch) (D : va_G) (cI cN cZ : ClassId) (a1 : Nat → Nat) (a2 : Nat → Nat) (g : Nat → Option Nat) (k2 : Nat) (hk2 : k2 < 6) (hg2 : g k2 = some (a2 0)) (z1 : MchT) (z2 : MndT) (x1 : Int32) (post : Int32 → MchT → MndT → Prop) (hw : wp_Ch_restart k2 z1 z2 x1 post) : km_I l y_Ch_restart (.code y_Ch_restart b_Ch_restart 2 (some .boolean) :: kmW) rm_Ch_restart D kmC (kmT cI cN cZ) kmF kmM [.ref (a1 0), .int x1] (mchW cI cN cZ a1 g z1 ++ mndW cI cN cZ a2 z2) (fun (r : Int32) (u : MchT × MndT) => post r u.1 u.2) (fun (u : MchT × MndT) => (mchW cI cN cZ a1 g u.1 ++ mndW cI cN cZ a2 u.2)) 0 0 := by
  refine km_startI (cc := b_Ch_restart) (maxL := 2) (ret := (some .boolean)) (by decide) rfl (Nat.le_of_ble_eq_true rfl) ?_
  intro p e s m below meth c A ls hE hA hK hP hD hS hl
  obtain ⟨hx, hb, hr, hml, hown, hts0, hlk, hnm⟩ := id hE
  have hts : ∀ w ∈ kmW, w.before ([.ref (a1 0), .int x1] : List Value).toArray s = true := fun w h => hts0 w (List.mem_cons_of_mem _ h)
  have hP : va_P D kmC (mchW cI cN cZ a1 g z1 ++ mndW cI cN cZ a2 z2) s.heap := hP
  have hl : lv_has ls 2 [(0, .ref (a1 0)), (1, .int x1)] := hl
  unfold wp_Ch_restart at hw
  refine lv_iload_n hx hb d_Ch_restart_0 rfl (lv_at hl 1 rfl) ?_
  refine km_ci (wr := [(a1 0, .inr (5, [.ref (a1 1), .ref (a1 2), .ref (a1 6), .ref (a1 7), .int (mch_routerConfiguration z1)])), (a1 1, .inl (cN, 6, .inr (.inr (.inr (.inr g))))), (a1 2, .inr (3, [.ref (a1 3), .ref (a1 4), .ref (a1 5), .int (mbk_count (mch_book z1))])), (a1 3, .inl (cI, 31, .inl (mbk_kinds (mch_book z1)))), (a1 4, .inl (cI, 31, .inl (mbk_keys (mch_book z1)))), (a1 5, .inl (cI, 31, .inl (mbk_numbers (mch_book z1)))), (a1 6, .inl (cI, 31, .inl (mch_heardAnswers z1))), (a1 7, .inl (cI, 31, .inl (mch_heardCounts z1))), (a2 0, .inr (2, [.int (mnd_number z2), .int (mnd_up z2), .ref (a2 1), .ref (a2 4), .int (mnd_last z2), .int (mnd_retired z2), .ref (a2 8), .int (mnd_pending z2), .ref (a2 9)])), (a2 1, .inr (4, [.int (mst_configuration (mnd_state z2)), .int (mst_membership (mnd_state z2)), .int (mst_executed (mnd_state z2)), .ref (a2 2), .int (mst_doneBits (mnd_state z2)), .ref (a2 3)])), (a2 2, .inl (cI, 4, .inl (mst_values (mnd_state z2)))), (a2 3, .inl (cI, 31, .inl (mst_answers (mnd_state z2)))), (a2 4, .inr (1, [.ref (a2 5), .ref (a2 6), .ref (a2 7)])), (a2 5, .inl (cI, 40, .inl (mlg_promisedBallots (mnd_ledger z2)))), (a2 6, .inl (cI, 40, .inl (mlg_voteBallots (mnd_ledger z2)))), (a2 7, .inl (cI, 40, .inl (mlg_voteCommands (mnd_ledger z2)))), (a2 8, .inl (cI, 9, .inl (mnd_knownCommands z2))), (a2 9, .inr (0, [.int (mat_slot (mnd_attempt z2)), .int (mat_ballot (mnd_attempt z2)), .int (mat_promisers (mnd_attempt z2)), .int (mat_voters (mnd_attempt z2)), .int (mat_bestBallot (mnd_attempt z2)), .int (mat_bestCommand (mnd_attempt z2)), .int (mat_command (mnd_attempt z2))]))]) (km_rS (n := 1) hE kmG (c_Ch_isNode l D cI cN cZ x1 _ hw) mw_228 mw_226 mw_227 mw_1 (by decide) ⟨rfl, rfl, ⟨by decide, by decide⟩, by decide, by decide⟩ hK (km_cut hP [] rfl) (hD.sub [] (by decide) rfl) rfl hl.1 rfl (Nat.le_of_ble_eq_true rfl) d_Ch_restart_1) hP hD hS hA [] [0, 1, 2, 3, 4, 5, 6, 7, 8, 9, 10, 11, 12, 13, 14, 15, 16, 17] rfl rfl (by decide) (by decide) (fun r1 _ H locs hw hP hD hS => ?_)
  have hP := hP.sub (ws' := (mchW cI cN cZ a1 g z1 ++ mndW cI cN cZ a2 z2)) [0, 1, 2, 3, 4, 5, 6, 7, 8, 9, 10, 11, 12, 13, 14, 15, 16, 17] rfl
  have hD := hD.sub (ws' := (mchW cI cN cZ a1 g z1 ++ mndW cI cN cZ a2 z2)) [0, 1, 2, 3, 4, 5, 6, 7, 8, 9, 10, 11, 12, 13, 14, 15, 16, 17] (by decide) rfl
  refine lv_if_eq (tgt := 19) hx hb d_Ch_restart_4 (by first | rfl | decide) (fun h2 => ?_) (fun h2 => ?_)
  · have hw := hw.1 h2
    refine lv_iconst (v := (0 : Int32)) hx hb d_Ch_restart_19 (by decide) ?_
    exact W.zret (ty := .boolean) (v := (0 : Int32)) hx hb hr (by decide) (fun t ht hW => ⟨⟨(0 : Int32), (z1, z2), rfl, hw, by rw [ht]; exact hP, hD⟩, hS.F ht⟩) hS.2.2 d_Ch_restart_20
  · have hw := hw.2 h2
    refine lv_aload_n hx hb d_Ch_restart_7 rfl (lv_at hl 0 rfl) ?_
    refine va_get (D := D) (ci := 5) (v := .ref (a1 1)) (C := R_Ch) (T := F_Ch) (N := 5) hx hb hts iw_Ch hown hK.1 hP 0 rfl rfl 0 (by decide) (hts _ mw_178) (fun _ h => h) rfl d_Ch_restart_8 ?_
    refine lv_iload_n hx hb d_Ch_restart_11 rfl (lv_at hl 1 rfl) ?_
    obtain ⟨hk, hw⟩ := hw
    refine km_ald hx hb hK.1 hP 1 1 rfl rfl hk hk2 (by decide) hg2 d_Ch_restart_12 ?_
    refine va_getN (D := D) (ci := 2) (v := .int (mnd_up z2)) (C := R_Nd) (T := F_Nd) (N := 9) hx hb hts iw_Nd hown hK.1 hP 8 rfl rfl 1 (by decide) (km_nF hK 20 rfl) (fun _ h => h) rfl d_Ch_restart_13 ?_
    refine lv_if_eq (tgt := 21) hx hb d_Ch_restart_16 (by first | rfl | decide) (fun h3 => ?_) (fun h3 => ?_)
    · have hw := hw.1 h3
      refine lv_aload_n hx hb d_Ch_restart_21 rfl (lv_at hl 0 rfl) ?_
      refine va_get (D := D) (ci := 5) (v := .ref (a1 1)) (C := R_Ch) (T := F_Ch) (N := 5) hx hb hts iw_Ch hown hK.1 hP 0 rfl rfl 0 (by decide) (hts _ mw_178) (fun _ h => h) rfl d_Ch_restart_22 ?_
      refine lv_iload_n hx hb d_Ch_restart_25 rfl (lv_at hl 1 rfl) ?_
      obtain ⟨hk, hw⟩ := hw
      refine km_ald hx hb hK.1 hP 1 1 rfl rfl hk hk2 (by decide) hg2 d_Ch_restart_26 ?_
      refine lv_iconst (v := (1 : Int32)) hx hb d_Ch_restart_27 (by decide) ?_
      refine va_putN (D := D) (ci := 2) (v := .int (1 : Int32)) (ty := .boolean) (C := R_Nd) (T := F_Nd) (N := 9) hx hb hts iw_Nd t_Nd t_Nd_ok n_Nd hown hK.1 hP hD hS 8 rfl rfl 1 (by decide) (km_nF hK 20 rfl) (fun _ h => h) rfl (t_Nd_ok 1 (by decide)) rfl rfl (Nat.le_of_ble_eq_true rfl) d_Ch_restart_28 (fun H locs hP hD hS => ?_)
      have hP : va_P D kmC (mchW cI cN cZ a1 g z1 ++ mndW cI cN cZ a2 (mnd_s_up z2 (1 : Int32))) H := hP
      have hD : va_D A (mchW cI cN cZ a1 g z1 ++ mndW cI cN cZ a2 (mnd_s_up z2 (1 : Int32))) := hD
      refine lv_iconst (v := (1 : Int32)) hx hb d_Ch_restart_31 (by decide) ?_
      exact W.zret (ty := .boolean) (v := (1 : Int32)) hx hb hr (by decide) (fun t ht hW => ⟨⟨(1 : Int32), (z1, (mnd_s_up z2 (1 : Int32))), rfl, hw, by rw [ht]; exact hP, hD⟩, hS.F ht⟩) hS.2.2 d_Ch_restart_32
    · have hw := hw.2 h3
      refine lv_iconst (v := (0 : Int32)) hx hb d_Ch_restart_19 (by decide) ?_
      exact W.zret (ty := .boolean) (v := (0 : Int32)) hx hb hr (by decide) (fun t ht hW => ⟨⟨(0 : Int32), (z1, z2), rfl, hw, by rw [ht]; exact hP, hD⟩, hS.F ht⟩) hS.2.2 d_Ch_restart_20
set_option maxHeartbeats 4000000 in
set_option maxRecDepth 100000 in
theorem c_Ch_retire (l : Launch) (D : va_G) (cI cN cZ : ClassId) (a1 : Nat → Nat) (a2 : Nat → Nat) (g : Nat → Option Nat) (k2 : Nat) (hk2 : k2 < 6) (hg2 : g k2 = some (a2 0)) (z1 : MchT) (z2 : MndT) (x1 : Int32) (post : Int32 → MchT → MndT → Prop) (hw : wp_Ch_retire k2 z1 z2 x1 post) : km_I l y_Ch_retire (.code y_Ch_retire b_Ch_retire 4 (some .int) :: kmW) rm_Ch_retire D kmC (kmT cI cN cZ) kmF kmM [.ref (a1 0), .int x1] (mchW cI cN cZ a1 g z1 ++ mndW cI cN cZ a2 z2) (fun (r : Int32) (u : MchT × MndT) => post r u.1 u.2) (fun (u : MchT × MndT) => (mchW cI cN cZ a1 g u.1 ++ mndW cI cN cZ a2 u.2)) 0 0 := by
  refine km_startI (cc := b_Ch_retire) (maxL := 4) (ret := (some .int)) (by decide) rfl (Nat.le_of_ble_eq_true rfl) ?_
  intro p e s m below meth c A ls hE hA hK hP hD hS hl
  obtain ⟨hx, hb, hr, hml, hown, hts0, hlk, hnm⟩ := id hE
  have hts : ∀ w ∈ kmW, w.before ([.ref (a1 0), .int x1] : List Value).toArray s = true := fun w h => hts0 w (List.mem_cons_of_mem _ h)
  have hP : va_P D kmC (mchW cI cN cZ a1 g z1 ++ mndW cI cN cZ a2 z2) s.heap := hP
  have hl : lv_has ls 4 [(0, .ref (a1 0)), (1, .int x1)] := hl
  unfold wp_Ch_retire at hw
  refine lv_iload_n hx hb d_Ch_retire_0 rfl (lv_at hl 1 rfl) ?_
  refine km_ci (wr := [(a1 0, .inr (5, [.ref (a1 1), .ref (a1 2), .ref (a1 6), .ref (a1 7), .int (mch_routerConfiguration z1)])), (a1 1, .inl (cN, 6, .inr (.inr (.inr (.inr g))))), (a1 2, .inr (3, [.ref (a1 3), .ref (a1 4), .ref (a1 5), .int (mbk_count (mch_book z1))])), (a1 3, .inl (cI, 31, .inl (mbk_kinds (mch_book z1)))), (a1 4, .inl (cI, 31, .inl (mbk_keys (mch_book z1)))), (a1 5, .inl (cI, 31, .inl (mbk_numbers (mch_book z1)))), (a1 6, .inl (cI, 31, .inl (mch_heardAnswers z1))), (a1 7, .inl (cI, 31, .inl (mch_heardCounts z1))), (a2 0, .inr (2, [.int (mnd_number z2), .int (mnd_up z2), .ref (a2 1), .ref (a2 4), .int (mnd_last z2), .int (mnd_retired z2), .ref (a2 8), .int (mnd_pending z2), .ref (a2 9)])), (a2 1, .inr (4, [.int (mst_configuration (mnd_state z2)), .int (mst_membership (mnd_state z2)), .int (mst_executed (mnd_state z2)), .ref (a2 2), .int (mst_doneBits (mnd_state z2)), .ref (a2 3)])), (a2 2, .inl (cI, 4, .inl (mst_values (mnd_state z2)))), (a2 3, .inl (cI, 31, .inl (mst_answers (mnd_state z2)))), (a2 4, .inr (1, [.ref (a2 5), .ref (a2 6), .ref (a2 7)])), (a2 5, .inl (cI, 40, .inl (mlg_promisedBallots (mnd_ledger z2)))), (a2 6, .inl (cI, 40, .inl (mlg_voteBallots (mnd_ledger z2)))), (a2 7, .inl (cI, 40, .inl (mlg_voteCommands (mnd_ledger z2)))), (a2 8, .inl (cI, 9, .inl (mnd_knownCommands z2))), (a2 9, .inr (0, [.int (mat_slot (mnd_attempt z2)), .int (mat_ballot (mnd_attempt z2)), .int (mat_promisers (mnd_attempt z2)), .int (mat_voters (mnd_attempt z2)), .int (mat_bestBallot (mnd_attempt z2)), .int (mat_bestCommand (mnd_attempt z2)), .int (mat_command (mnd_attempt z2))]))]) (km_rS (n := 1) hE kmG (c_Ch_isNode l D cI cN cZ x1 _ hw) mw_228 mw_226 mw_227 mw_1 (by decide) ⟨rfl, rfl, ⟨by decide, by decide⟩, by decide, by decide⟩ hK (km_cut hP [] rfl) (hD.sub [] (by decide) rfl) rfl hl.1 rfl (Nat.le_of_ble_eq_true rfl) d_Ch_retire_1) hP hD hS hA [] [0, 1, 2, 3, 4, 5, 6, 7, 8, 9, 10, 11, 12, 13, 14, 15, 16, 17] rfl rfl (by decide) (by decide) (fun r1 _ H locs hw hP hD hS => ?_)
  have hP := hP.sub (ws' := (mchW cI cN cZ a1 g z1 ++ mndW cI cN cZ a2 z2)) [0, 1, 2, 3, 4, 5, 6, 7, 8, 9, 10, 11, 12, 13, 14, 15, 16, 17] rfl
  have hD := hD.sub (ws' := (mchW cI cN cZ a1 g z1 ++ mndW cI cN cZ a2 z2)) [0, 1, 2, 3, 4, 5, 6, 7, 8, 9, 10, 11, 12, 13, 14, 15, 16, 17] (by decide) rfl
  refine lv_if_ne (tgt := 9) hx hb d_Ch_retire_4 (by first | rfl | decide) (fun h2 => ?_) (fun h2 => ?_)
  · have hw := hw.2 h2
    refine lv_aload_n hx hb d_Ch_retire_9 rfl (lv_at hl 0 rfl) ?_
    refine va_get (D := D) (ci := 5) (v := .ref (a1 1)) (C := R_Ch) (T := F_Ch) (N := 5) hx hb hts iw_Ch hown hK.1 hP 0 rfl rfl 0 (by decide) (hts _ mw_178) (fun _ h => h) rfl d_Ch_retire_10 ?_
    refine lv_iload_n hx hb d_Ch_retire_13 rfl (lv_at hl 1 rfl) ?_
    obtain ⟨hk, hw⟩ := hw
    refine km_ald hx hb hK.1 hP 1 1 rfl rfl hk hk2 (by decide) hg2 d_Ch_retire_14 ?_
    refine lv_astore_n (lv' := [(2, .ref (a2 0)), (0, .ref (a1 0)), (1, .int x1)]) hx hb d_Ch_retire_15 rfl hl (by decide) rfl (fun ls hl => ?_)
    refine lv_aload_n hx hb d_Ch_retire_16 rfl (lv_at hl 0 rfl) ?_
    refine va_getN (D := D) (ci := 2) (v := .ref (a2 1)) (C := R_Nd) (T := F_Nd) (N := 9) hx hb hts iw_Nd hown hK.1 hP 8 rfl rfl 2 (by decide) (km_nF hK 21 rfl) (fun _ h => h) rfl d_Ch_retire_17 ?_
    refine va_getN (D := D) (ci := 4) (v := .int (mst_configuration (mnd_state z2))) (C := R_St) (T := F_St) (N := 6) hx hb hts iw_St hown hK.1 hP 9 rfl rfl 0 (by decide) (km_nF hK 0 rfl) (fun _ h => h) rfl d_Ch_retire_20 ?_
    refine lv_topi (fun v3 ev3 => ?_)
    have hw := hw v3 ev3
    refine lv_istore_n (lv' := [(3, .int v3), (2, .ref (a2 0)), (0, .ref (a1 0)), (1, .int x1)]) hx hb d_Ch_retire_23 rfl hl (by decide) rfl (fun ls hl => ?_)
    refine lv_aload_n hx hb d_Ch_retire_24 rfl (lv_at hl 1 rfl) ?_
    refine va_getN (D := D) (ci := 2) (v := .int (mnd_up z2)) (C := R_Nd) (T := F_Nd) (N := 9) hx hb hts iw_Nd hown hK.1 hP 8 rfl rfl 1 (by decide) (km_nF hK 20 rfl) (fun _ h => h) rfl d_Ch_retire_25 ?_
    refine lv_if_eq (tgt := 39) hx hb d_Ch_retire_28 (by first | rfl | decide) (fun h4 => ?_) (fun h4 => ?_)
    · have hw := hw.1 h4
      refine lv_iconst (v := (0 : Int32)) hx hb d_Ch_retire_39 (by decide) ?_
      exact W.iret (v := (0 : Int32)) hx hb hr (fun t ht hW => ⟨⟨(0 : Int32), (z1, z2), rfl, hw, by rw [ht]; exact hP, hD⟩, hS.F ht⟩) hS.2.2 d_Ch_retire_40
    · have hw := hw.2 h4
      refine lv_aload_n hx hb d_Ch_retire_31 rfl (lv_at hl 1 rfl) ?_
      refine va_getN (D := D) (ci := 2) (v := .int (mnd_retired z2)) (C := R_Nd) (T := F_Nd) (N := 9) hx hb hts iw_Nd hown hK.1 hP 8 rfl rfl 5 (by decide) (km_nF hK 24 rfl) (fun _ h => h) rfl d_Ch_retire_32 ?_
      refine lv_iload_n hx hb d_Ch_retire_35 rfl (lv_at hl 0 rfl) ?_
      refine lv_icmp_ne (tgt := 41) hx hb d_Ch_retire_36 (by first | rfl | decide) (fun h5 => ?_) (fun h5 => ?_)
      · have hw := hw.2 h5
        refine lv_aload_n hx hb d_Ch_retire_41 rfl (lv_at hl 1 rfl) ?_
        refine lv_iload_n hx hb d_Ch_retire_42 rfl (lv_at hl 0 rfl) ?_
        refine va_putN (D := D) (ci := 2) (v := .int v3) (ty := .int) (C := R_Nd) (T := F_Nd) (N := 9) hx hb hts iw_Nd t_Nd t_Nd_ok n_Nd hown hK.1 hP hD hS 8 rfl rfl 5 (by decide) (km_nF hK 24 rfl) (fun _ h => h) rfl (t_Nd_ok 5 (by decide)) rfl rfl (Nat.le_of_ble_eq_true rfl) d_Ch_retire_43 (fun H locs hP hD hS => ?_)
        have hP : va_P D kmC (mchW cI cN cZ a1 g z1 ++ mndW cI cN cZ a2 (mnd_s_retired z2 v3)) H := hP
        have hD : va_D A (mchW cI cN cZ a1 g z1 ++ mndW cI cN cZ a2 (mnd_s_retired z2 v3)) := hD
        refine lv_iconst (v := (1 : Int32)) hx hb d_Ch_retire_46 (by decide) ?_
        refine lv_aload_n hx hb d_Ch_retire_47 rfl (lv_at hl 1 rfl) ?_
        refine va_getN (D := D) (ci := 2) (v := .ref (a2 4)) (C := R_Nd) (T := F_Nd) (N := 9) hx hb hts iw_Nd hown hK.1 hP 8 rfl rfl 3 (by decide) (km_nF hK 22 rfl) (fun _ h => h) rfl d_Ch_retire_48 ?_
        refine lv_iload_n hx hb d_Ch_retire_51 rfl (lv_at hl 0 rfl) ?_
        refine km_ci (wr := [(a1 0, .inr (5, [.ref (a1 1), .ref (a1 2), .ref (a1 6), .ref (a1 7), .int (mch_routerConfiguration z1)])), (a1 1, .inl (cN, 6, .inr (.inr (.inr (.inr g))))), (a1 2, .inr (3, [.ref (a1 3), .ref (a1 4), .ref (a1 5), .int (mbk_count (mch_book z1))])), (a1 3, .inl (cI, 31, .inl (mbk_kinds (mch_book z1)))), (a1 4, .inl (cI, 31, .inl (mbk_keys (mch_book z1)))), (a1 5, .inl (cI, 31, .inl (mbk_numbers (mch_book z1)))), (a1 6, .inl (cI, 31, .inl (mch_heardAnswers z1))), (a1 7, .inl (cI, 31, .inl (mch_heardCounts z1))), (a2 0, .inr (2, [.int (mnd_number (mnd_s_retired z2 v3)), .int (mnd_up (mnd_s_retired z2 v3)), .ref (a2 1), .ref (a2 4), .int (mnd_last (mnd_s_retired z2 v3)), .int (mnd_retired (mnd_s_retired z2 v3)), .ref (a2 8), .int (mnd_pending (mnd_s_retired z2 v3)), .ref (a2 9)])), (a2 1, .inr (4, [.int (mst_configuration (mnd_state (mnd_s_retired z2 v3))), .int (mst_membership (mnd_state (mnd_s_retired z2 v3))), .int (mst_executed (mnd_state (mnd_s_retired z2 v3))), .ref (a2 2), .int (mst_doneBits (mnd_state (mnd_s_retired z2 v3))), .ref (a2 3)])), (a2 2, .inl (cI, 4, .inl (mst_values (mnd_state (mnd_s_retired z2 v3))))), (a2 3, .inl (cI, 31, .inl (mst_answers (mnd_state (mnd_s_retired z2 v3))))), (a2 8, .inl (cI, 9, .inl (mnd_knownCommands (mnd_s_retired z2 v3)))), (a2 9, .inr (0, [.int (mat_slot (mnd_attempt (mnd_s_retired z2 v3))), .int (mat_ballot (mnd_attempt (mnd_s_retired z2 v3))), .int (mat_promisers (mnd_attempt (mnd_s_retired z2 v3))), .int (mat_voters (mnd_attempt (mnd_s_retired z2 v3))), .int (mat_bestBallot (mnd_attempt (mnd_s_retired z2 v3))), .int (mat_bestCommand (mnd_attempt (mnd_s_retired z2 v3))), .int (mat_command (mnd_attempt (mnd_s_retired z2 v3)))]))]) (km_rVN (n := 1) hE kmG (c_Lg_forgetBelow l D cI cN cZ (fun j => a2 (j + 4)) (mnd_ledger z2) v3 _ hw) mw_388 (km_nM hK 34 rfl) mw_387 mp_28 mw_4 (by decide) ⟨rfl, rfl, ⟨by decide, by decide⟩, by decide, by decide⟩ hK (km_cut hP [12, 13, 14, 15] rfl) (hD.sub [12, 13, 14, 15] (by decide) rfl) (ci := 1) rfl hP (q0 := 12) rfl rfl hl.1 rfl (Nat.le_of_ble_eq_true rfl) d_Ch_retire_52) hP hD hS hA [12, 13, 14, 15] [0, 1, 2, 3, 4, 5, 6, 7, 8, 9, 10, 11, 16, 17] rfl rfl (by decide) (by decide) (fun r6 u7 H locs hw hP hD hS => ?_)
        have hP := hP.sub (ws' := (mchW cI cN cZ a1 g z1 ++ mndW cI cN cZ a2 (mnd_s_ledger (mnd_s_retired z2 v3) u7))) [0, 1, 2, 3, 4, 5, 6, 7, 8, 9, 10, 11, 14, 15, 16, 17, 12, 13] rfl
        have hD := hD.sub (ws' := (mchW cI cN cZ a1 g z1 ++ mndW cI cN cZ a2 (mnd_s_ledger (mnd_s_retired z2 v3) u7))) [0, 1, 2, 3, 4, 5, 6, 7, 8, 9, 10, 11, 14, 15, 16, 17, 12, 13] (by decide) rfl
        refine lv_iadd hx hb d_Ch_retire_55 ?_
        exact W.iret (v := ((1 : Int32) + r6)) hx hb hr (fun t ht hW => ⟨⟨((1 : Int32) + r6), (z1, (mnd_s_ledger (mnd_s_retired z2 v3) u7)), rfl, hw, by rw [ht]; exact hP, hD⟩, hS.F ht⟩) hS.2.2 d_Ch_retire_56
      · have hw := hw.1 h5
        refine lv_iconst (v := (0 : Int32)) hx hb d_Ch_retire_39 (by decide) ?_
        exact W.iret (v := (0 : Int32)) hx hb hr (fun t ht hW => ⟨⟨(0 : Int32), (z1, z2), rfl, hw, by rw [ht]; exact hP, hD⟩, hS.F ht⟩) hS.2.2 d_Ch_retire_40
  · have hw := hw.1 h2
    refine lv_iconst (v := (-1 : Int32)) hx hb d_Ch_retire_7 (by decide) ?_
    exact W.iret (v := (-1 : Int32)) hx hb hr (fun t ht hW => ⟨⟨(-1 : Int32), (z1, z2), rfl, hw, by rw [ht]; exact hP, hD⟩, hS.F ht⟩) hS.2.2 d_Ch_retire_8
set_option maxHeartbeats 4000000 in
set_option maxRecDepth 100000 in
theorem c_Ch_look (l : Launch) (D : va_G) (cI cN cZ : ClassId) (a1 : Nat → Nat) (a2 : Nat → Nat) (g : Nat → Option Nat) (k2 : Nat) (hk2 : k2 < 6) (hg2 : g k2 = some (a2 0)) (z1 : MchT) (z2 : MndT) (x1 : Int32) (x2 : Int32) (post : Int32 → MchT → MndT → Prop) (hw : wp_Ch_look k2 z1 z2 x1 x2 post) : km_I l y_Ch_look (.code y_Ch_look b_Ch_look 4 (some .int) :: kmW) rm_Ch_look D kmC (kmT cI cN cZ) kmF kmM [.ref (a1 0), .int x1, .int x2] (mchW cI cN cZ a1 g z1 ++ mndW cI cN cZ a2 z2) (fun (r : Int32) (u : MchT × MndT) => post r u.1 u.2) (fun (u : MchT × MndT) => (mchW cI cN cZ a1 g u.1 ++ mndW cI cN cZ a2 u.2)) 0 0 := by
  refine km_startI (cc := b_Ch_look) (maxL := 4) (ret := (some .int)) (by decide) rfl (Nat.le_of_ble_eq_true rfl) ?_
  intro p e s m below meth c A ls hE hA hK hP hD hS hl
  obtain ⟨hx, hb, hr, hml, hown, hts0, hlk, hnm⟩ := id hE
  have hts : ∀ w ∈ kmW, w.before ([.ref (a1 0), .int x1, .int x2] : List Value).toArray s = true := fun w h => hts0 w (List.mem_cons_of_mem _ h)
  have hP : va_P D kmC (mchW cI cN cZ a1 g z1 ++ mndW cI cN cZ a2 z2) s.heap := hP
  have hl : lv_has ls 4 [(0, .ref (a1 0)), (1, .int x1), (2, .int x2)] := hl
  unfold wp_Ch_look at hw
  refine lv_iload_n hx hb d_Ch_look_0 rfl (lv_at hl 1 rfl) ?_
  refine km_ci (wr := [(a1 0, .inr (5, [.ref (a1 1), .ref (a1 2), .ref (a1 6), .ref (a1 7), .int (mch_routerConfiguration z1)])), (a1 1, .inl (cN, 6, .inr (.inr (.inr (.inr g))))), (a1 2, .inr (3, [.ref (a1 3), .ref (a1 4), .ref (a1 5), .int (mbk_count (mch_book z1))])), (a1 3, .inl (cI, 31, .inl (mbk_kinds (mch_book z1)))), (a1 4, .inl (cI, 31, .inl (mbk_keys (mch_book z1)))), (a1 5, .inl (cI, 31, .inl (mbk_numbers (mch_book z1)))), (a1 6, .inl (cI, 31, .inl (mch_heardAnswers z1))), (a1 7, .inl (cI, 31, .inl (mch_heardCounts z1))), (a2 0, .inr (2, [.int (mnd_number z2), .int (mnd_up z2), .ref (a2 1), .ref (a2 4), .int (mnd_last z2), .int (mnd_retired z2), .ref (a2 8), .int (mnd_pending z2), .ref (a2 9)])), (a2 1, .inr (4, [.int (mst_configuration (mnd_state z2)), .int (mst_membership (mnd_state z2)), .int (mst_executed (mnd_state z2)), .ref (a2 2), .int (mst_doneBits (mnd_state z2)), .ref (a2 3)])), (a2 2, .inl (cI, 4, .inl (mst_values (mnd_state z2)))), (a2 3, .inl (cI, 31, .inl (mst_answers (mnd_state z2)))), (a2 4, .inr (1, [.ref (a2 5), .ref (a2 6), .ref (a2 7)])), (a2 5, .inl (cI, 40, .inl (mlg_promisedBallots (mnd_ledger z2)))), (a2 6, .inl (cI, 40, .inl (mlg_voteBallots (mnd_ledger z2)))), (a2 7, .inl (cI, 40, .inl (mlg_voteCommands (mnd_ledger z2)))), (a2 8, .inl (cI, 9, .inl (mnd_knownCommands z2))), (a2 9, .inr (0, [.int (mat_slot (mnd_attempt z2)), .int (mat_ballot (mnd_attempt z2)), .int (mat_promisers (mnd_attempt z2)), .int (mat_voters (mnd_attempt z2)), .int (mat_bestBallot (mnd_attempt z2)), .int (mat_bestCommand (mnd_attempt z2)), .int (mat_command (mnd_attempt z2))]))]) (km_rS (n := 1) hE kmG (c_Ch_isNode l D cI cN cZ x1 _ hw) mw_228 mw_226 mw_227 mw_1 (by decide) ⟨rfl, rfl, ⟨by decide, by decide⟩, by decide, by decide⟩ hK (km_cut hP [] rfl) (hD.sub [] (by decide) rfl) rfl hl.1 rfl (Nat.le_of_ble_eq_true rfl) d_Ch_look_1) hP hD hS hA [] [0, 1, 2, 3, 4, 5, 6, 7, 8, 9, 10, 11, 12, 13, 14, 15, 16, 17] rfl rfl (by decide) (by decide) (fun r1 _ H locs hw hP hD hS => ?_)
  have hP := hP.sub (ws' := (mchW cI cN cZ a1 g z1 ++ mndW cI cN cZ a2 z2)) [0, 1, 2, 3, 4, 5, 6, 7, 8, 9, 10, 11, 12, 13, 14, 15, 16, 17] rfl
  have hD := hD.sub (ws' := (mchW cI cN cZ a1 g z1 ++ mndW cI cN cZ a2 z2)) [0, 1, 2, 3, 4, 5, 6, 7, 8, 9, 10, 11, 12, 13, 14, 15, 16, 17] (by decide) rfl
  refine lv_if_ne (tgt := 9) hx hb d_Ch_look_4 (by first | rfl | decide) (fun h2 => ?_) (fun h2 => ?_)
  · have hw := hw.2 h2
    refine lv_aload_n hx hb d_Ch_look_9 rfl (lv_at hl 0 rfl) ?_
    refine va_get (D := D) (ci := 5) (v := .ref (a1 1)) (C := R_Ch) (T := F_Ch) (N := 5) hx hb hts iw_Ch hown hK.1 hP 0 rfl rfl 0 (by decide) (hts _ mw_178) (fun _ h => h) rfl d_Ch_look_10 ?_
    refine lv_iload_n hx hb d_Ch_look_13 rfl (lv_at hl 1 rfl) ?_
    obtain ⟨hk, hw⟩ := hw
    refine km_ald hx hb hK.1 hP 1 1 rfl rfl hk hk2 (by decide) hg2 d_Ch_look_14 ?_
    refine lv_astore_n (lv' := [(3, .ref (a2 0)), (0, .ref (a1 0)), (1, .int x1), (2, .int x2)]) hx hb d_Ch_look_15 rfl hl (by decide) rfl (fun ls hl => ?_)
    refine lv_iload_n hx hb d_Ch_look_16 rfl (lv_at hl 3 rfl) ?_
    by_cases h3 : x2 = (0 : Int32)
    · have hw := hw.1 h3
      refine lv_tableIn (tgt := 76) (off := 59) hx hb d_Ch_look_17 (by rw [h3]; decide) (by rw [h3]; decide) (by rw [h3]; rfl) (by first | rfl | decide) ?_
      refine lv_aload_n hx hb d_Ch_look_76 rfl (lv_at hl 0 rfl) ?_
      refine va_getN (D := D) (ci := 2) (v := .int (mnd_up z2)) (C := R_Nd) (T := F_Nd) (N := 9) hx hb hts iw_Nd hown hK.1 hP 8 rfl rfl 1 (by decide) (km_nF hK 20 rfl) (fun _ h => h) rfl d_Ch_look_77 ?_
      refine lv_if_eq (tgt := 87) hx hb d_Ch_look_80 (by first | rfl | decide) (fun h4 => ?_) (fun h4 => ?_)
      · have hw := hw.1 h4
        refine lv_iconst (v := (0 : Int32)) hx hb d_Ch_look_87 (by decide) ?_
        exact W.iret (v := (0 : Int32)) hx hb hr (fun t ht hW => ⟨⟨(0 : Int32), (z1, z2), rfl, hw, by rw [ht]; exact hP, hD⟩, hS.F ht⟩) hS.2.2 d_Ch_look_88
      · have hw := hw.2 h4
        refine lv_iconst (v := (1 : Int32)) hx hb d_Ch_look_83 (by decide) ?_
        refine lv_goto (tgt := 88) hx hb d_Ch_look_84 (by first | rfl | decide) ?_
        exact W.iret (v := (1 : Int32)) hx hb hr (fun t ht hW => ⟨⟨(1 : Int32), (z1, z2), rfl, hw, by rw [ht]; exact hP, hD⟩, hS.F ht⟩) hS.2.2 d_Ch_look_88
    have hw := hw.2 h3
    by_cases h5 : x2 = (1 : Int32)
    · have hw := hw.1 h5
      refine lv_tableIn (tgt := 89) (off := 72) hx hb d_Ch_look_17 (by rw [h5]; decide) (by rw [h5]; decide) (by rw [h5]; rfl) (by first | rfl | decide) ?_
      refine lv_aload_n hx hb d_Ch_look_89 rfl (lv_at hl 0 rfl) ?_
      refine va_getN (D := D) (ci := 2) (v := .ref (a2 1)) (C := R_Nd) (T := F_Nd) (N := 9) hx hb hts iw_Nd hown hK.1 hP 8 rfl rfl 2 (by decide) (km_nF hK 21 rfl) (fun _ h => h) rfl d_Ch_look_90 ?_
      refine va_getN (D := D) (ci := 4) (v := .int (mst_configuration (mnd_state z2))) (C := R_St) (T := F_St) (N := 6) hx hb hts iw_St hown hK.1 hP 9 rfl rfl 0 (by decide) (km_nF hK 0 rfl) (fun _ h => h) rfl d_Ch_look_93 ?_
      exact W.iret (v := (mst_configuration (mnd_state z2))) hx hb hr (fun t ht hW => ⟨⟨(mst_configuration (mnd_state z2)), (z1, z2), rfl, hw, by rw [ht]; exact hP, hD⟩, hS.F ht⟩) hS.2.2 d_Ch_look_96
    have hw := hw.2 h5
    by_cases h6 : x2 = (2 : Int32)
    · have hw := hw.1 h6
      refine lv_tableIn (tgt := 97) (off := 80) hx hb d_Ch_look_17 (by rw [h6]; decide) (by rw [h6]; decide) (by rw [h6]; rfl) (by first | rfl | decide) ?_
      refine lv_aload_n hx hb d_Ch_look_97 rfl (lv_at hl 0 rfl) ?_
      refine va_getN (D := D) (ci := 2) (v := .ref (a2 1)) (C := R_Nd) (T := F_Nd) (N := 9) hx hb hts iw_Nd hown hK.1 hP 8 rfl rfl 2 (by decide) (km_nF hK 21 rfl) (fun _ h => h) rfl d_Ch_look_98 ?_
      refine va_getN (D := D) (ci := 4) (v := .int (mst_executed (mnd_state z2))) (C := R_St) (T := F_St) (N := 6) hx hb hts iw_St hown hK.1 hP 9 rfl rfl 2 (by decide) (km_nF hK 4 rfl) (fun _ h => h) rfl d_Ch_look_101 ?_
      exact W.iret (v := (mst_executed (mnd_state z2))) hx hb hr (fun t ht hW => ⟨⟨(mst_executed (mnd_state z2)), (z1, z2), rfl, hw, by rw [ht]; exact hP, hD⟩, hS.F ht⟩) hS.2.2 d_Ch_look_104
    have hw := hw.2 h6
    by_cases h7 : x2 = (3 : Int32)
    · have hw := hw.1 h7
      refine lv_tableIn (tgt := 105) (off := 88) hx hb d_Ch_look_17 (by rw [h7]; decide) (by rw [h7]; decide) (by rw [h7]; rfl) (by first | rfl | decide) ?_
      refine lv_aload_n hx hb d_Ch_look_105 rfl (lv_at hl 0 rfl) ?_
      refine va_getN (D := D) (ci := 2) (v := .ref (a2 1)) (C := R_Nd) (T := F_Nd) (N := 9) hx hb hts iw_Nd hown hK.1 hP 8 rfl rfl 2 (by decide) (km_nF hK 21 rfl) (fun _ h => h) rfl d_Ch_look_106 ?_
      refine va_getN (D := D) (ci := 4) (v := .int (mst_membership (mnd_state z2))) (C := R_St) (T := F_St) (N := 6) hx hb hts iw_St hown hK.1 hP 9 rfl rfl 1 (by decide) (km_nF hK 2 rfl) (fun _ h => h) rfl d_Ch_look_109 ?_
      exact W.iret (v := (mst_membership (mnd_state z2))) hx hb hr (fun t ht hW => ⟨⟨(mst_membership (mnd_state z2)), (z1, z2), rfl, hw, by rw [ht]; exact hP, hD⟩, hS.F ht⟩) hS.2.2 d_Ch_look_112
    have hw := hw.2 h7
    by_cases h8 : x2 = (4 : Int32)
    · have hw := hw.1 h8
      refine lv_tableIn (tgt := 113) (off := 96) hx hb d_Ch_look_17 (by rw [h8]; decide) (by rw [h8]; decide) (by rw [h8]; rfl) (by first | rfl | decide) ?_
      refine lv_aload_n hx hb d_Ch_look_113 rfl (lv_at hl 0 rfl) ?_
      refine va_getN (D := D) (ci := 2) (v := .int (mnd_last z2)) (C := R_Nd) (T := F_Nd) (N := 9) hx hb hts iw_Nd hown hK.1 hP 8 rfl rfl 4 (by decide) (km_nF hK 23 rfl) (fun _ h => h) rfl d_Ch_look_114 ?_
      exact W.iret (v := (mnd_last z2)) hx hb hr (fun t ht hW => ⟨⟨(mnd_last z2), (z1, z2), rfl, hw, by rw [ht]; exact hP, hD⟩, hS.F ht⟩) hS.2.2 d_Ch_look_117
    have hw := hw.2 h8
    by_cases h9 : x2 = (5 : Int32)
    · have hw := hw.1 h9
      refine lv_tableIn (tgt := 118) (off := 101) hx hb d_Ch_look_17 (by rw [h9]; decide) (by rw [h9]; decide) (by rw [h9]; rfl) (by first | rfl | decide) ?_
      refine lv_aload_n hx hb d_Ch_look_118 rfl (lv_at hl 0 rfl) ?_
      refine va_getN (D := D) (ci := 2) (v := .int (mnd_retired z2)) (C := R_Nd) (T := F_Nd) (N := 9) hx hb hts iw_Nd hown hK.1 hP 8 rfl rfl 5 (by decide) (km_nF hK 24 rfl) (fun _ h => h) rfl d_Ch_look_119 ?_
      exact W.iret (v := (mnd_retired z2)) hx hb hr (fun t ht hW => ⟨⟨(mnd_retired z2), (z1, z2), rfl, hw, by rw [ht]; exact hP, hD⟩, hS.F ht⟩) hS.2.2 d_Ch_look_122
    have hw := hw.2 h9
    by_cases h10 : x2 = (6 : Int32)
    · have hw := hw.1 h10
      refine lv_tableIn (tgt := 123) (off := 106) hx hb d_Ch_look_17 (by rw [h10]; decide) (by rw [h10]; decide) (by rw [h10]; rfl) (by first | rfl | decide) ?_
      refine lv_aload_n hx hb d_Ch_look_123 rfl (lv_at hl 0 rfl) ?_
      refine va_getN (D := D) (ci := 2) (v := .int (mnd_pending z2)) (C := R_Nd) (T := F_Nd) (N := 9) hx hb hts iw_Nd hown hK.1 hP 8 rfl rfl 7 (by decide) (km_nF hK 26 rfl) (fun _ h => h) rfl d_Ch_look_124 ?_
      exact W.iret (v := (mnd_pending z2)) hx hb hr (fun t ht hW => ⟨⟨(mnd_pending z2), (z1, z2), rfl, hw, by rw [ht]; exact hP, hD⟩, hS.F ht⟩) hS.2.2 d_Ch_look_127
    have hw := hw.2 h10
    by_cases h11 : x2 = (7 : Int32)
    · have hw := hw.1 h11
      refine lv_tableIn (tgt := 128) (off := 111) hx hb d_Ch_look_17 (by rw [h11]; decide) (by rw [h11]; decide) (by rw [h11]; rfl) (by first | rfl | decide) ?_
      refine lv_aload_n hx hb d_Ch_look_128 rfl (lv_at hl 0 rfl) ?_
      refine va_getN (D := D) (ci := 2) (v := .ref (a2 9)) (C := R_Nd) (T := F_Nd) (N := 9) hx hb hts iw_Nd hown hK.1 hP 8 rfl rfl 8 (by decide) (km_nF hK 27 rfl) (fun _ h => h) rfl d_Ch_look_129 ?_
      refine va_getN (D := D) (ci := 0) (v := .int (mat_slot (mnd_attempt z2))) (C := R_At) (T := F_At) (N := 7) hx hb hts iw_At hown hK.1 hP 17 rfl rfl 0 (by decide) (km_nF hK 10 rfl) (fun _ h => h) rfl d_Ch_look_132 ?_
      exact W.iret (v := (mat_slot (mnd_attempt z2))) hx hb hr (fun t ht hW => ⟨⟨(mat_slot (mnd_attempt z2)), (z1, z2), rfl, hw, by rw [ht]; exact hP, hD⟩, hS.F ht⟩) hS.2.2 d_Ch_look_135
    have hw := hw.2 h11
    by_cases h12 : x2 = (8 : Int32)
    · have hw := hw.1 h12
      refine lv_tableIn (tgt := 136) (off := 119) hx hb d_Ch_look_17 (by rw [h12]; decide) (by rw [h12]; decide) (by rw [h12]; rfl) (by first | rfl | decide) ?_
      refine lv_aload_n hx hb d_Ch_look_136 rfl (lv_at hl 0 rfl) ?_
      refine va_getN (D := D) (ci := 2) (v := .ref (a2 9)) (C := R_Nd) (T := F_Nd) (N := 9) hx hb hts iw_Nd hown hK.1 hP 8 rfl rfl 8 (by decide) (km_nF hK 27 rfl) (fun _ h => h) rfl d_Ch_look_137 ?_
      refine va_getN (D := D) (ci := 0) (v := .int (mat_ballot (mnd_attempt z2))) (C := R_At) (T := F_At) (N := 7) hx hb hts iw_At hown hK.1 hP 17 rfl rfl 1 (by decide) (km_nF hK 12 rfl) (fun _ h => h) rfl d_Ch_look_140 ?_
      exact W.iret (v := (mat_ballot (mnd_attempt z2))) hx hb hr (fun t ht hW => ⟨⟨(mat_ballot (mnd_attempt z2)), (z1, z2), rfl, hw, by rw [ht]; exact hP, hD⟩, hS.F ht⟩) hS.2.2 d_Ch_look_143
    have hw := hw.2 h12
    by_cases h13 : x2 = (9 : Int32)
    · have hw := hw.1 h13
      refine lv_tableIn (tgt := 144) (off := 127) hx hb d_Ch_look_17 (by rw [h13]; decide) (by rw [h13]; decide) (by rw [h13]; rfl) (by first | rfl | decide) ?_
      refine lv_aload_n hx hb d_Ch_look_144 rfl (lv_at hl 0 rfl) ?_
      refine va_getN (D := D) (ci := 2) (v := .ref (a2 9)) (C := R_Nd) (T := F_Nd) (N := 9) hx hb hts iw_Nd hown hK.1 hP 8 rfl rfl 8 (by decide) (km_nF hK 27 rfl) (fun _ h => h) rfl d_Ch_look_145 ?_
      refine va_getN (D := D) (ci := 0) (v := .int (mat_promisers (mnd_attempt z2))) (C := R_At) (T := F_At) (N := 7) hx hb hts iw_At hown hK.1 hP 17 rfl rfl 2 (by decide) (km_nF hK 13 rfl) (fun _ h => h) rfl d_Ch_look_148 ?_
      exact W.iret (v := (mat_promisers (mnd_attempt z2))) hx hb hr (fun t ht hW => ⟨⟨(mat_promisers (mnd_attempt z2)), (z1, z2), rfl, hw, by rw [ht]; exact hP, hD⟩, hS.F ht⟩) hS.2.2 d_Ch_look_151
    have hw := hw.2 h13
    by_cases h14 : x2 = (10 : Int32)
    · have hw := hw.1 h14
      refine lv_tableIn (tgt := 152) (off := 135) hx hb d_Ch_look_17 (by rw [h14]; decide) (by rw [h14]; decide) (by rw [h14]; rfl) (by first | rfl | decide) ?_
      refine lv_aload_n hx hb d_Ch_look_152 rfl (lv_at hl 0 rfl) ?_
      refine va_getN (D := D) (ci := 2) (v := .ref (a2 9)) (C := R_Nd) (T := F_Nd) (N := 9) hx hb hts iw_Nd hown hK.1 hP 8 rfl rfl 8 (by decide) (km_nF hK 27 rfl) (fun _ h => h) rfl d_Ch_look_153 ?_
      refine va_getN (D := D) (ci := 0) (v := .int (mat_voters (mnd_attempt z2))) (C := R_At) (T := F_At) (N := 7) hx hb hts iw_At hown hK.1 hP 17 rfl rfl 3 (by decide) (km_nF hK 15 rfl) (fun _ h => h) rfl d_Ch_look_156 ?_
      exact W.iret (v := (mat_voters (mnd_attempt z2))) hx hb hr (fun t ht hW => ⟨⟨(mat_voters (mnd_attempt z2)), (z1, z2), rfl, hw, by rw [ht]; exact hP, hD⟩, hS.F ht⟩) hS.2.2 d_Ch_look_159
    have hw := hw.2 h14
    refine lv_tableOut (tgt := 160) hx hb d_Ch_look_17 (by have h3T := lv_neT (a := 0) h3 (by decide); have h5T := lv_neT (a := 1) h5 (by decide); have h6T := lv_neT (a := 2) h6 (by decide); have h7T := lv_neT (a := 3) h7 (by decide); have h8T := lv_neT (a := 4) h8 (by decide); have h9T := lv_neT (a := 5) h9 (by decide); have h10T := lv_neT (a := 6) h10 (by decide); have h11T := lv_neT (a := 7) h11 (by decide); have h12T := lv_neT (a := 8) h12 (by decide); have h13T := lv_neT (a := 9) h13 (by decide); have h14T := lv_neT (a := 10) h14 (by decide); omega) (by first | rfl | decide) ?_
    refine lv_iconst (v := (-1 : Int32)) hx hb d_Ch_look_160 (by decide) ?_
    exact W.iret (v := (-1 : Int32)) hx hb hr (fun t ht hW => ⟨⟨(-1 : Int32), (z1, z2), rfl, hw, by rw [ht]; exact hP, hD⟩, hS.F ht⟩) hS.2.2 d_Ch_look_161
  · have hw := hw.1 h2
    refine lv_iconst (v := (-1 : Int32)) hx hb d_Ch_look_7 (by decide) ?_
    exact W.iret (v := (-1 : Int32)) hx hb hr (fun t ht hW => ⟨⟨(-1 : Int32), (z1, z2), rfl, hw, by rw [ht]; exact hP, hD⟩, hS.F ht⟩) hS.2.2 d_Ch_look_8
set_option maxHeartbeats 4000000 in
set_option maxRecDepth 100000 in
theorem c_Ch_value (l : Launch) (D : va_G) (cI cN cZ : ClassId) (a1 : Nat → Nat) (a2 : Nat → Nat) (g : Nat → Option Nat) (k2 : Nat) (hk2 : k2 < 6) (hg2 : g k2 = some (a2 0)) (z1 : MchT) (z2 : MndT) (x1 : Int32) (x2 : Int32) (post : Int32 → MchT → MndT → Prop) (hw : wp_Ch_value k2 z1 z2 x1 x2 post) : km_I l y_Ch_value (.code y_Ch_value b_Ch_value 3 (some .int) :: kmW) rm_Ch_value D kmC (kmT cI cN cZ) kmF kmM [.ref (a1 0), .int x1, .int x2] (mchW cI cN cZ a1 g z1 ++ mndW cI cN cZ a2 z2) (fun (r : Int32) (u : MchT × MndT) => post r u.1 u.2) (fun (u : MchT × MndT) => (mchW cI cN cZ a1 g u.1 ++ mndW cI cN cZ a2 u.2)) 0 0 := by
  refine km_startI (cc := b_Ch_value) (maxL := 3) (ret := (some .int)) (by decide) rfl (Nat.le_of_ble_eq_true rfl) ?_
  intro p e s m below meth c A ls hE hA hK hP hD hS hl
  obtain ⟨hx, hb, hr, hml, hown, hts0, hlk, hnm⟩ := id hE
  have hts : ∀ w ∈ kmW, w.before ([.ref (a1 0), .int x1, .int x2] : List Value).toArray s = true := fun w h => hts0 w (List.mem_cons_of_mem _ h)
  have hP : va_P D kmC (mchW cI cN cZ a1 g z1 ++ mndW cI cN cZ a2 z2) s.heap := hP
  have hl : lv_has ls 3 [(0, .ref (a1 0)), (1, .int x1), (2, .int x2)] := hl
  unfold wp_Ch_value at hw
  refine lv_iload_n hx hb d_Ch_value_0 rfl (lv_at hl 1 rfl) ?_
  refine km_ci (wr := [(a1 0, .inr (5, [.ref (a1 1), .ref (a1 2), .ref (a1 6), .ref (a1 7), .int (mch_routerConfiguration z1)])), (a1 1, .inl (cN, 6, .inr (.inr (.inr (.inr g))))), (a1 2, .inr (3, [.ref (a1 3), .ref (a1 4), .ref (a1 5), .int (mbk_count (mch_book z1))])), (a1 3, .inl (cI, 31, .inl (mbk_kinds (mch_book z1)))), (a1 4, .inl (cI, 31, .inl (mbk_keys (mch_book z1)))), (a1 5, .inl (cI, 31, .inl (mbk_numbers (mch_book z1)))), (a1 6, .inl (cI, 31, .inl (mch_heardAnswers z1))), (a1 7, .inl (cI, 31, .inl (mch_heardCounts z1))), (a2 0, .inr (2, [.int (mnd_number z2), .int (mnd_up z2), .ref (a2 1), .ref (a2 4), .int (mnd_last z2), .int (mnd_retired z2), .ref (a2 8), .int (mnd_pending z2), .ref (a2 9)])), (a2 1, .inr (4, [.int (mst_configuration (mnd_state z2)), .int (mst_membership (mnd_state z2)), .int (mst_executed (mnd_state z2)), .ref (a2 2), .int (mst_doneBits (mnd_state z2)), .ref (a2 3)])), (a2 2, .inl (cI, 4, .inl (mst_values (mnd_state z2)))), (a2 3, .inl (cI, 31, .inl (mst_answers (mnd_state z2)))), (a2 4, .inr (1, [.ref (a2 5), .ref (a2 6), .ref (a2 7)])), (a2 5, .inl (cI, 40, .inl (mlg_promisedBallots (mnd_ledger z2)))), (a2 6, .inl (cI, 40, .inl (mlg_voteBallots (mnd_ledger z2)))), (a2 7, .inl (cI, 40, .inl (mlg_voteCommands (mnd_ledger z2)))), (a2 8, .inl (cI, 9, .inl (mnd_knownCommands z2))), (a2 9, .inr (0, [.int (mat_slot (mnd_attempt z2)), .int (mat_ballot (mnd_attempt z2)), .int (mat_promisers (mnd_attempt z2)), .int (mat_voters (mnd_attempt z2)), .int (mat_bestBallot (mnd_attempt z2)), .int (mat_bestCommand (mnd_attempt z2)), .int (mat_command (mnd_attempt z2))]))]) (km_rS (n := 1) hE kmG (c_Ch_isNode l D cI cN cZ x1 _ hw) mw_228 mw_226 mw_227 mw_1 (by decide) ⟨rfl, rfl, ⟨by decide, by decide⟩, by decide, by decide⟩ hK (km_cut hP [] rfl) (hD.sub [] (by decide) rfl) rfl hl.1 rfl (Nat.le_of_ble_eq_true rfl) d_Ch_value_1) hP hD hS hA [] [0, 1, 2, 3, 4, 5, 6, 7, 8, 9, 10, 11, 12, 13, 14, 15, 16, 17] rfl rfl (by decide) (by decide) (fun r1 _ H locs hw hP hD hS => ?_)
  have hP := hP.sub (ws' := (mchW cI cN cZ a1 g z1 ++ mndW cI cN cZ a2 z2)) [0, 1, 2, 3, 4, 5, 6, 7, 8, 9, 10, 11, 12, 13, 14, 15, 16, 17] rfl
  have hD := hD.sub (ws' := (mchW cI cN cZ a1 g z1 ++ mndW cI cN cZ a2 z2)) [0, 1, 2, 3, 4, 5, 6, 7, 8, 9, 10, 11, 12, 13, 14, 15, 16, 17] (by decide) rfl
  refine lv_if_eq (tgt := 31) hx hb d_Ch_value_4 (by first | rfl | decide) (fun h2 => ?_) (fun h2 => ?_)
  · have hw := hw.1 h2
    refine lv_iconst (v := (0 : Int32)) hx hb d_Ch_value_31 (by decide) ?_
    exact W.iret (v := (0 : Int32)) hx hb hr (fun t ht hW => ⟨⟨(0 : Int32), (z1, z2), rfl, hw, by rw [ht]; exact hP, hD⟩, hS.F ht⟩) hS.2.2 d_Ch_value_32
  · have hw := hw.2 h2
    refine lv_iload_n hx hb d_Ch_value_7 rfl (lv_at hl 2 rfl) ?_
    refine km_ci (wr := [(a1 0, .inr (5, [.ref (a1 1), .ref (a1 2), .ref (a1 6), .ref (a1 7), .int (mch_routerConfiguration z1)])), (a1 1, .inl (cN, 6, .inr (.inr (.inr (.inr g))))), (a1 2, .inr (3, [.ref (a1 3), .ref (a1 4), .ref (a1 5), .int (mbk_count (mch_book z1))])), (a1 3, .inl (cI, 31, .inl (mbk_kinds (mch_book z1)))), (a1 4, .inl (cI, 31, .inl (mbk_keys (mch_book z1)))), (a1 5, .inl (cI, 31, .inl (mbk_numbers (mch_book z1)))), (a1 6, .inl (cI, 31, .inl (mch_heardAnswers z1))), (a1 7, .inl (cI, 31, .inl (mch_heardCounts z1))), (a2 0, .inr (2, [.int (mnd_number z2), .int (mnd_up z2), .ref (a2 1), .ref (a2 4), .int (mnd_last z2), .int (mnd_retired z2), .ref (a2 8), .int (mnd_pending z2), .ref (a2 9)])), (a2 1, .inr (4, [.int (mst_configuration (mnd_state z2)), .int (mst_membership (mnd_state z2)), .int (mst_executed (mnd_state z2)), .ref (a2 2), .int (mst_doneBits (mnd_state z2)), .ref (a2 3)])), (a2 2, .inl (cI, 4, .inl (mst_values (mnd_state z2)))), (a2 3, .inl (cI, 31, .inl (mst_answers (mnd_state z2)))), (a2 4, .inr (1, [.ref (a2 5), .ref (a2 6), .ref (a2 7)])), (a2 5, .inl (cI, 40, .inl (mlg_promisedBallots (mnd_ledger z2)))), (a2 6, .inl (cI, 40, .inl (mlg_voteBallots (mnd_ledger z2)))), (a2 7, .inl (cI, 40, .inl (mlg_voteCommands (mnd_ledger z2)))), (a2 8, .inl (cI, 9, .inl (mnd_knownCommands z2))), (a2 9, .inr (0, [.int (mat_slot (mnd_attempt z2)), .int (mat_ballot (mnd_attempt z2)), .int (mat_promisers (mnd_attempt z2)), .int (mat_voters (mnd_attempt z2)), .int (mat_bestBallot (mnd_attempt z2)), .int (mat_bestCommand (mnd_attempt z2)), .int (mat_command (mnd_attempt z2))]))]) (km_rS (n := 1) hE kmG (c_Ch_isKey l D cI cN cZ x2 _ hw) mw_200 mw_198 mw_199 mw_1 (by decide) ⟨rfl, rfl, ⟨by decide, by decide⟩, by decide, by decide⟩ hK (km_cut hP [] rfl) (hD.sub [] (by decide) rfl) rfl hl.1 rfl (Nat.le_of_ble_eq_true rfl) d_Ch_value_8) hP hD hS hA [] [0, 1, 2, 3, 4, 5, 6, 7, 8, 9, 10, 11, 12, 13, 14, 15, 16, 17] rfl rfl (by decide) (by decide) (fun r3 _ H locs hw hP hD hS => ?_)
    have hP := hP.sub (ws' := (mchW cI cN cZ a1 g z1 ++ mndW cI cN cZ a2 z2)) [0, 1, 2, 3, 4, 5, 6, 7, 8, 9, 10, 11, 12, 13, 14, 15, 16, 17] rfl
    have hD := hD.sub (ws' := (mchW cI cN cZ a1 g z1 ++ mndW cI cN cZ a2 z2)) [0, 1, 2, 3, 4, 5, 6, 7, 8, 9, 10, 11, 12, 13, 14, 15, 16, 17] (by decide) rfl
    refine lv_if_eq (tgt := 31) hx hb d_Ch_value_11 (by first | rfl | decide) (fun h4 => ?_) (fun h4 => ?_)
    · have hw := hw.1 h4
      refine lv_iconst (v := (0 : Int32)) hx hb d_Ch_value_31 (by decide) ?_
      exact W.iret (v := (0 : Int32)) hx hb hr (fun t ht hW => ⟨⟨(0 : Int32), (z1, z2), rfl, hw, by rw [ht]; exact hP, hD⟩, hS.F ht⟩) hS.2.2 d_Ch_value_32
    · have hw := hw.2 h4
      refine lv_aload_n hx hb d_Ch_value_14 rfl (lv_at hl 0 rfl) ?_
      refine va_get (D := D) (ci := 5) (v := .ref (a1 1)) (C := R_Ch) (T := F_Ch) (N := 5) hx hb hts iw_Ch hown hK.1 hP 0 rfl rfl 0 (by decide) (hts _ mw_178) (fun _ h => h) rfl d_Ch_value_15 ?_
      refine lv_iload_n hx hb d_Ch_value_18 rfl (lv_at hl 1 rfl) ?_
      obtain ⟨hk, hw⟩ := hw
      refine km_ald hx hb hK.1 hP 1 1 rfl rfl hk hk2 (by decide) hg2 d_Ch_value_19 ?_
      refine va_getN (D := D) (ci := 2) (v := .ref (a2 1)) (C := R_Nd) (T := F_Nd) (N := 9) hx hb hts iw_Nd hown hK.1 hP 8 rfl rfl 2 (by decide) (km_nF hK 21 rfl) (fun _ h => h) rfl d_Ch_value_20 ?_
      refine va_getN (D := D) (ci := 4) (v := .ref (a2 2)) (C := R_St) (T := F_St) (N := 6) hx hb hts iw_St hown hK.1 hP 9 rfl rfl 3 (by decide) (km_nF hK 5 rfl) (fun _ h => h) rfl d_Ch_value_23 ?_
      refine lv_iload_n hx hb d_Ch_value_26 rfl (lv_at hl 2 rfl) ?_
      obtain ⟨hin, hw⟩ := hw
      refine va_iald (f := (mst_values (mnd_state z2))) hx hb hK.1 hP 10 0 rfl rfl hin d_Ch_value_27 ?_
      refine lv_goto (tgt := 32) hx hb d_Ch_value_28 (by first | rfl | decide) ?_
      exact W.iret (v := ((mst_values (mnd_state z2)) (x2).toNatClampNeg)) hx hb hr (fun t ht hW => ⟨⟨((mst_values (mnd_state z2)) (x2).toNatClampNeg), (z1, z2), rfl, hw, by rw [ht]; exact hP, hD⟩, hS.F ht⟩) hS.2.2 d_Ch_value_32
set_option maxHeartbeats 4000000 in
set_option maxRecDepth 100000 in
theorem c_Ch_promised (l : Launch) (D : va_G) (cI cN cZ : ClassId) (a1 : Nat → Nat) (a2 : Nat → Nat) (g : Nat → Option Nat) (k2 : Nat) (hk2 : k2 < 6) (hg2 : g k2 = some (a2 0)) (z1 : MchT) (z2 : MndT) (x1 : Int32) (x2 : Int32) (x3 : Int32) (post : Int32 → MchT → MndT → Prop) (hw : wp_Ch_promised k2 z1 z2 x1 x2 x3 post) : km_I l y_Ch_promised (.code y_Ch_promised b_Ch_promised 4 (some .int) :: kmW) rm_Ch_promised D kmC (kmT cI cN cZ) kmF kmM [.ref (a1 0), .int x1, .int x2, .int x3] (mchW cI cN cZ a1 g z1 ++ mndW cI cN cZ a2 z2) (fun (r : Int32) (u : MchT × MndT) => post r u.1 u.2) (fun (u : MchT × MndT) => (mchW cI cN cZ a1 g u.1 ++ mndW cI cN cZ a2 u.2)) 0 0 := by
  refine km_startI (cc := b_Ch_promised) (maxL := 4) (ret := (some .int)) (by decide) rfl (Nat.le_of_ble_eq_true rfl) ?_
  intro p e s m below meth c A ls hE hA hK hP hD hS hl
  obtain ⟨hx, hb, hr, hml, hown, hts0, hlk, hnm⟩ := id hE
  have hts : ∀ w ∈ kmW, w.before ([.ref (a1 0), .int x1, .int x2, .int x3] : List Value).toArray s = true := fun w h => hts0 w (List.mem_cons_of_mem _ h)
  have hP : va_P D kmC (mchW cI cN cZ a1 g z1 ++ mndW cI cN cZ a2 z2) s.heap := hP
  have hl : lv_has ls 4 [(0, .ref (a1 0)), (1, .int x1), (2, .int x2), (3, .int x3)] := hl
  unfold wp_Ch_promised at hw
  refine lv_iload_n hx hb d_Ch_promised_0 rfl (lv_at hl 1 rfl) ?_
  refine km_ci (wr := [(a1 0, .inr (5, [.ref (a1 1), .ref (a1 2), .ref (a1 6), .ref (a1 7), .int (mch_routerConfiguration z1)])), (a1 1, .inl (cN, 6, .inr (.inr (.inr (.inr g))))), (a1 2, .inr (3, [.ref (a1 3), .ref (a1 4), .ref (a1 5), .int (mbk_count (mch_book z1))])), (a1 3, .inl (cI, 31, .inl (mbk_kinds (mch_book z1)))), (a1 4, .inl (cI, 31, .inl (mbk_keys (mch_book z1)))), (a1 5, .inl (cI, 31, .inl (mbk_numbers (mch_book z1)))), (a1 6, .inl (cI, 31, .inl (mch_heardAnswers z1))), (a1 7, .inl (cI, 31, .inl (mch_heardCounts z1))), (a2 0, .inr (2, [.int (mnd_number z2), .int (mnd_up z2), .ref (a2 1), .ref (a2 4), .int (mnd_last z2), .int (mnd_retired z2), .ref (a2 8), .int (mnd_pending z2), .ref (a2 9)])), (a2 1, .inr (4, [.int (mst_configuration (mnd_state z2)), .int (mst_membership (mnd_state z2)), .int (mst_executed (mnd_state z2)), .ref (a2 2), .int (mst_doneBits (mnd_state z2)), .ref (a2 3)])), (a2 2, .inl (cI, 4, .inl (mst_values (mnd_state z2)))), (a2 3, .inl (cI, 31, .inl (mst_answers (mnd_state z2)))), (a2 4, .inr (1, [.ref (a2 5), .ref (a2 6), .ref (a2 7)])), (a2 5, .inl (cI, 40, .inl (mlg_promisedBallots (mnd_ledger z2)))), (a2 6, .inl (cI, 40, .inl (mlg_voteBallots (mnd_ledger z2)))), (a2 7, .inl (cI, 40, .inl (mlg_voteCommands (mnd_ledger z2)))), (a2 8, .inl (cI, 9, .inl (mnd_knownCommands z2))), (a2 9, .inr (0, [.int (mat_slot (mnd_attempt z2)), .int (mat_ballot (mnd_attempt z2)), .int (mat_promisers (mnd_attempt z2)), .int (mat_voters (mnd_attempt z2)), .int (mat_bestBallot (mnd_attempt z2)), .int (mat_bestCommand (mnd_attempt z2)), .int (mat_command (mnd_attempt z2))]))]) (km_rS (n := 1) hE kmG (c_Ch_isNode l D cI cN cZ x1 _ hw) mw_228 mw_226 mw_227 mw_1 (by decide) ⟨rfl, rfl, ⟨by decide, by decide⟩, by decide, by decide⟩ hK (km_cut hP [] rfl) (hD.sub [] (by decide) rfl) rfl hl.1 rfl (Nat.le_of_ble_eq_true rfl) d_Ch_promised_1) hP hD hS hA [] [0, 1, 2, 3, 4, 5, 6, 7, 8, 9, 10, 11, 12, 13, 14, 15, 16, 17] rfl rfl (by decide) (by decide) (fun r1 _ H locs hw hP hD hS => ?_)
  have hP := hP.sub (ws' := (mchW cI cN cZ a1 g z1 ++ mndW cI cN cZ a2 z2)) [0, 1, 2, 3, 4, 5, 6, 7, 8, 9, 10, 11, 12, 13, 14, 15, 16, 17] rfl
  have hD := hD.sub (ws' := (mchW cI cN cZ a1 g z1 ++ mndW cI cN cZ a2 z2)) [0, 1, 2, 3, 4, 5, 6, 7, 8, 9, 10, 11, 12, 13, 14, 15, 16, 17] (by decide) rfl
  refine lv_if_eq (tgt := 21) hx hb d_Ch_promised_4 (by first | rfl | decide) (fun h2 => ?_) (fun h2 => ?_)
  · have hw := hw.1 h2
    refine lv_iconst (v := (-1 : Int32)) hx hb d_Ch_promised_21 (by decide) ?_
    exact W.iret (v := (-1 : Int32)) hx hb hr (fun t ht hW => ⟨⟨(-1 : Int32), (z1, z2), rfl, hw, by rw [ht]; exact hP, hD⟩, hS.F ht⟩) hS.2.2 d_Ch_promised_22
  · have hw := hw.2 h2
    refine lv_iload_n hx hb d_Ch_promised_7 rfl (lv_at hl 2 rfl) ?_
    refine km_ci (wr := [(a1 0, .inr (5, [.ref (a1 1), .ref (a1 2), .ref (a1 6), .ref (a1 7), .int (mch_routerConfiguration z1)])), (a1 1, .inl (cN, 6, .inr (.inr (.inr (.inr g))))), (a1 2, .inr (3, [.ref (a1 3), .ref (a1 4), .ref (a1 5), .int (mbk_count (mch_book z1))])), (a1 3, .inl (cI, 31, .inl (mbk_kinds (mch_book z1)))), (a1 4, .inl (cI, 31, .inl (mbk_keys (mch_book z1)))), (a1 5, .inl (cI, 31, .inl (mbk_numbers (mch_book z1)))), (a1 6, .inl (cI, 31, .inl (mch_heardAnswers z1))), (a1 7, .inl (cI, 31, .inl (mch_heardCounts z1))), (a2 0, .inr (2, [.int (mnd_number z2), .int (mnd_up z2), .ref (a2 1), .ref (a2 4), .int (mnd_last z2), .int (mnd_retired z2), .ref (a2 8), .int (mnd_pending z2), .ref (a2 9)])), (a2 1, .inr (4, [.int (mst_configuration (mnd_state z2)), .int (mst_membership (mnd_state z2)), .int (mst_executed (mnd_state z2)), .ref (a2 2), .int (mst_doneBits (mnd_state z2)), .ref (a2 3)])), (a2 2, .inl (cI, 4, .inl (mst_values (mnd_state z2)))), (a2 3, .inl (cI, 31, .inl (mst_answers (mnd_state z2)))), (a2 4, .inr (1, [.ref (a2 5), .ref (a2 6), .ref (a2 7)])), (a2 5, .inl (cI, 40, .inl (mlg_promisedBallots (mnd_ledger z2)))), (a2 6, .inl (cI, 40, .inl (mlg_voteBallots (mnd_ledger z2)))), (a2 7, .inl (cI, 40, .inl (mlg_voteCommands (mnd_ledger z2)))), (a2 8, .inl (cI, 9, .inl (mnd_knownCommands z2))), (a2 9, .inr (0, [.int (mat_slot (mnd_attempt z2)), .int (mat_ballot (mnd_attempt z2)), .int (mat_promisers (mnd_attempt z2)), .int (mat_voters (mnd_attempt z2)), .int (mat_bestBallot (mnd_attempt z2)), .int (mat_bestCommand (mnd_attempt z2)), .int (mat_command (mnd_attempt z2))]))]) (km_rS (n := 1) hE kmG (c_Ch_isConfiguration l D cI cN cZ x2 _ hw) mw_403 mw_401 mw_402 mw_1 (by decide) ⟨rfl, rfl, ⟨by decide, by decide⟩, by decide, by decide⟩ hK (km_cut hP [] rfl) (hD.sub [] (by decide) rfl) rfl hl.1 rfl (Nat.le_of_ble_eq_true rfl) d_Ch_promised_8) hP hD hS hA [] [0, 1, 2, 3, 4, 5, 6, 7, 8, 9, 10, 11, 12, 13, 14, 15, 16, 17] rfl rfl (by decide) (by decide) (fun r3 _ H locs hw hP hD hS => ?_)
    have hP := hP.sub (ws' := (mchW cI cN cZ a1 g z1 ++ mndW cI cN cZ a2 z2)) [0, 1, 2, 3, 4, 5, 6, 7, 8, 9, 10, 11, 12, 13, 14, 15, 16, 17] rfl
    have hD := hD.sub (ws' := (mchW cI cN cZ a1 g z1 ++ mndW cI cN cZ a2 z2)) [0, 1, 2, 3, 4, 5, 6, 7, 8, 9, 10, 11, 12, 13, 14, 15, 16, 17] (by decide) rfl
    refine lv_if_eq (tgt := 21) hx hb d_Ch_promised_11 (by first | rfl | decide) (fun h4 => ?_) (fun h4 => ?_)
    · have hw := hw.1 h4
      refine lv_iconst (v := (-1 : Int32)) hx hb d_Ch_promised_21 (by decide) ?_
      exact W.iret (v := (-1 : Int32)) hx hb hr (fun t ht hW => ⟨⟨(-1 : Int32), (z1, z2), rfl, hw, by rw [ht]; exact hP, hD⟩, hS.F ht⟩) hS.2.2 d_Ch_promised_22
    · have hw := hw.2 h4
      refine lv_iload_n hx hb d_Ch_promised_14 rfl (lv_at hl 3 rfl) ?_
      refine km_ci (wr := [(a1 0, .inr (5, [.ref (a1 1), .ref (a1 2), .ref (a1 6), .ref (a1 7), .int (mch_routerConfiguration z1)])), (a1 1, .inl (cN, 6, .inr (.inr (.inr (.inr g))))), (a1 2, .inr (3, [.ref (a1 3), .ref (a1 4), .ref (a1 5), .int (mbk_count (mch_book z1))])), (a1 3, .inl (cI, 31, .inl (mbk_kinds (mch_book z1)))), (a1 4, .inl (cI, 31, .inl (mbk_keys (mch_book z1)))), (a1 5, .inl (cI, 31, .inl (mbk_numbers (mch_book z1)))), (a1 6, .inl (cI, 31, .inl (mch_heardAnswers z1))), (a1 7, .inl (cI, 31, .inl (mch_heardCounts z1))), (a2 0, .inr (2, [.int (mnd_number z2), .int (mnd_up z2), .ref (a2 1), .ref (a2 4), .int (mnd_last z2), .int (mnd_retired z2), .ref (a2 8), .int (mnd_pending z2), .ref (a2 9)])), (a2 1, .inr (4, [.int (mst_configuration (mnd_state z2)), .int (mst_membership (mnd_state z2)), .int (mst_executed (mnd_state z2)), .ref (a2 2), .int (mst_doneBits (mnd_state z2)), .ref (a2 3)])), (a2 2, .inl (cI, 4, .inl (mst_values (mnd_state z2)))), (a2 3, .inl (cI, 31, .inl (mst_answers (mnd_state z2)))), (a2 4, .inr (1, [.ref (a2 5), .ref (a2 6), .ref (a2 7)])), (a2 5, .inl (cI, 40, .inl (mlg_promisedBallots (mnd_ledger z2)))), (a2 6, .inl (cI, 40, .inl (mlg_voteBallots (mnd_ledger z2)))), (a2 7, .inl (cI, 40, .inl (mlg_voteCommands (mnd_ledger z2)))), (a2 8, .inl (cI, 9, .inl (mnd_knownCommands z2))), (a2 9, .inr (0, [.int (mat_slot (mnd_attempt z2)), .int (mat_ballot (mnd_attempt z2)), .int (mat_promisers (mnd_attempt z2)), .int (mat_voters (mnd_attempt z2)), .int (mat_bestBallot (mnd_attempt z2)), .int (mat_bestCommand (mnd_attempt z2)), .int (mat_command (mnd_attempt z2))]))]) (km_rS (n := 1) hE kmG (c_Ch_isSlot l D cI cN cZ x3 _ hw) mw_251 mw_404 mw_250 mw_1 (by decide) ⟨rfl, rfl, ⟨by decide, by decide⟩, by decide, by decide⟩ hK (km_cut hP [] rfl) (hD.sub [] (by decide) rfl) rfl hl.1 rfl (Nat.le_of_ble_eq_true rfl) d_Ch_promised_15) hP hD hS hA [] [0, 1, 2, 3, 4, 5, 6, 7, 8, 9, 10, 11, 12, 13, 14, 15, 16, 17] rfl rfl (by decide) (by decide) (fun r5 _ H locs hw hP hD hS => ?_)
      have hP := hP.sub (ws' := (mchW cI cN cZ a1 g z1 ++ mndW cI cN cZ a2 z2)) [0, 1, 2, 3, 4, 5, 6, 7, 8, 9, 10, 11, 12, 13, 14, 15, 16, 17] rfl
      have hD := hD.sub (ws' := (mchW cI cN cZ a1 g z1 ++ mndW cI cN cZ a2 z2)) [0, 1, 2, 3, 4, 5, 6, 7, 8, 9, 10, 11, 12, 13, 14, 15, 16, 17] (by decide) rfl
      refine lv_if_ne (tgt := 23) hx hb d_Ch_promised_18 (by first | rfl | decide) (fun h6 => ?_) (fun h6 => ?_)
      · have hw := hw.2 h6
        refine lv_aload_n hx hb d_Ch_promised_23 rfl (lv_at hl 0 rfl) ?_
        refine va_get (D := D) (ci := 5) (v := .ref (a1 1)) (C := R_Ch) (T := F_Ch) (N := 5) hx hb hts iw_Ch hown hK.1 hP 0 rfl rfl 0 (by decide) (hts _ mw_178) (fun _ h => h) rfl d_Ch_promised_24 ?_
        refine lv_iload_n hx hb d_Ch_promised_27 rfl (lv_at hl 1 rfl) ?_
        obtain ⟨hk, hw⟩ := hw
        refine km_ald hx hb hK.1 hP 1 1 rfl rfl hk hk2 (by decide) hg2 d_Ch_promised_28 ?_
        refine va_getN (D := D) (ci := 2) (v := .ref (a2 4)) (C := R_Nd) (T := F_Nd) (N := 9) hx hb hts iw_Nd hown hK.1 hP 8 rfl rfl 3 (by decide) (km_nF hK 22 rfl) (fun _ h => h) rfl d_Ch_promised_29 ?_
        refine va_getN (D := D) (ci := 1) (v := .ref (a2 5)) (C := R_Lg) (T := F_Lg) (N := 3) hx hb hts iw_Lg hown hK.1 hP 12 rfl rfl 0 (by decide) (km_nF hK 7 rfl) (fun _ h => h) rfl d_Ch_promised_32 ?_
        refine lv_iload_n hx hb d_Ch_promised_35 rfl (lv_at hl 2 rfl) ?_
        refine lv_iload_n hx hb d_Ch_promised_36 rfl (lv_at hl 3 rfl) ?_
        refine km_ci (wr := [(a1 0, .inr (5, [.ref (a1 1), .ref (a1 2), .ref (a1 6), .ref (a1 7), .int (mch_routerConfiguration z1)])), (a1 1, .inl (cN, 6, .inr (.inr (.inr (.inr g))))), (a1 2, .inr (3, [.ref (a1 3), .ref (a1 4), .ref (a1 5), .int (mbk_count (mch_book z1))])), (a1 3, .inl (cI, 31, .inl (mbk_kinds (mch_book z1)))), (a1 4, .inl (cI, 31, .inl (mbk_keys (mch_book z1)))), (a1 5, .inl (cI, 31, .inl (mbk_numbers (mch_book z1)))), (a1 6, .inl (cI, 31, .inl (mch_heardAnswers z1))), (a1 7, .inl (cI, 31, .inl (mch_heardCounts z1))), (a2 0, .inr (2, [.int (mnd_number z2), .int (mnd_up z2), .ref (a2 1), .ref (a2 4), .int (mnd_last z2), .int (mnd_retired z2), .ref (a2 8), .int (mnd_pending z2), .ref (a2 9)])), (a2 1, .inr (4, [.int (mst_configuration (mnd_state z2)), .int (mst_membership (mnd_state z2)), .int (mst_executed (mnd_state z2)), .ref (a2 2), .int (mst_doneBits (mnd_state z2)), .ref (a2 3)])), (a2 2, .inl (cI, 4, .inl (mst_values (mnd_state z2)))), (a2 3, .inl (cI, 31, .inl (mst_answers (mnd_state z2)))), (a2 4, .inr (1, [.ref (a2 5), .ref (a2 6), .ref (a2 7)])), (a2 5, .inl (cI, 40, .inl (mlg_promisedBallots (mnd_ledger z2)))), (a2 6, .inl (cI, 40, .inl (mlg_voteBallots (mnd_ledger z2)))), (a2 7, .inl (cI, 40, .inl (mlg_voteCommands (mnd_ledger z2)))), (a2 8, .inl (cI, 9, .inl (mnd_knownCommands z2))), (a2 9, .inr (0, [.int (mat_slot (mnd_attempt z2)), .int (mat_ballot (mnd_attempt z2)), .int (mat_promisers (mnd_attempt z2)), .int (mat_voters (mnd_attempt z2)), .int (mat_bestBallot (mnd_attempt z2)), .int (mat_bestCommand (mnd_attempt z2)), .int (mat_command (mnd_attempt z2))]))]) (km_rSN (n := 2) hE kmG (c_Lg_cellOf l D cI cN cZ x2 x3 _ hw) mw_309 (km_nM hK 21 rfl) mw_308 mw_4 (by decide) ⟨rfl, rfl, ⟨by decide, by decide⟩, by decide, by decide⟩ hK (km_cut hP [] rfl) (hD.sub [] (by decide) rfl) rfl hl.1 rfl (Nat.le_of_ble_eq_true rfl) d_Ch_promised_37) hP hD hS hA [] [0, 1, 2, 3, 4, 5, 6, 7, 8, 9, 10, 11, 12, 13, 14, 15, 16, 17] rfl rfl (by decide) (by decide) (fun r7 _ H locs hw hP hD hS => ?_)
        have hP := hP.sub (ws' := (mchW cI cN cZ a1 g z1 ++ mndW cI cN cZ a2 z2)) [0, 1, 2, 3, 4, 5, 6, 7, 8, 9, 10, 11, 12, 13, 14, 15, 16, 17] rfl
        have hD := hD.sub (ws' := (mchW cI cN cZ a1 g z1 ++ mndW cI cN cZ a2 z2)) [0, 1, 2, 3, 4, 5, 6, 7, 8, 9, 10, 11, 12, 13, 14, 15, 16, 17] (by decide) rfl
        obtain ⟨hin, hw⟩ := hw
        refine va_iald (f := (mlg_promisedBallots (mnd_ledger z2))) hx hb hK.1 hP 13 0 rfl rfl hin d_Ch_promised_40 ?_
        exact W.iret (v := ((mlg_promisedBallots (mnd_ledger z2)) (r7).toNatClampNeg)) hx hb hr (fun t ht hW => ⟨⟨((mlg_promisedBallots (mnd_ledger z2)) (r7).toNatClampNeg), (z1, z2), rfl, hw, by rw [ht]; exact hP, hD⟩, hS.F ht⟩) hS.2.2 d_Ch_promised_41
      · have hw := hw.1 h6
        refine lv_iconst (v := (-1 : Int32)) hx hb d_Ch_promised_21 (by decide) ?_
        exact W.iret (v := (-1 : Int32)) hx hb hr (fun t ht hW => ⟨⟨(-1 : Int32), (z1, z2), rfl, hw, by rw [ht]; exact hP, hD⟩, hS.F ht⟩) hS.2.2 d_Ch_promised_22
set_option maxHeartbeats 4000000 in
set_option maxRecDepth 100000 in
theorem c_Ch_vote (l : Launch) (D : va_G) (cI cN cZ : ClassId) (a1 : Nat → Nat) (a2 : Nat → Nat) (g : Nat → Option Nat) (k2 : Nat) (hk2 : k2 < 6) (hg2 : g k2 = some (a2 0)) (z1 : MchT) (z2 : MndT) (x1 : Int32) (x2 : Int32) (x3 : Int32) (post : Int32 → MchT → MndT → Prop) (hw : wp_Ch_vote k2 z1 z2 x1 x2 x3 post) : km_I l y_Ch_vote (.code y_Ch_vote b_Ch_vote 6 (some .int) :: kmW) rm_Ch_vote D kmC (kmT cI cN cZ) kmF kmM [.ref (a1 0), .int x1, .int x2, .int x3] (mchW cI cN cZ a1 g z1 ++ mndW cI cN cZ a2 z2) (fun (r : Int32) (u : MchT × MndT) => post r u.1 u.2) (fun (u : MchT × MndT) => (mchW cI cN cZ a1 g u.1 ++ mndW cI cN cZ a2 u.2)) 0 0 := by
  refine km_startI (cc := b_Ch_vote) (maxL := 6) (ret := (some .int)) (by decide) rfl (Nat.le_of_ble_eq_true rfl) ?_
  intro p e s m below meth c A ls hE hA hK hP hD hS hl
  obtain ⟨hx, hb, hr, hml, hown, hts0, hlk, hnm⟩ := id hE
  have hts : ∀ w ∈ kmW, w.before ([.ref (a1 0), .int x1, .int x2, .int x3] : List Value).toArray s = true := fun w h => hts0 w (List.mem_cons_of_mem _ h)
  have hP : va_P D kmC (mchW cI cN cZ a1 g z1 ++ mndW cI cN cZ a2 z2) s.heap := hP
  have hl : lv_has ls 6 [(0, .ref (a1 0)), (1, .int x1), (2, .int x2), (3, .int x3)] := hl
  unfold wp_Ch_vote at hw
  refine lv_iload_n hx hb d_Ch_vote_0 rfl (lv_at hl 1 rfl) ?_
  refine km_ci (wr := [(a1 0, .inr (5, [.ref (a1 1), .ref (a1 2), .ref (a1 6), .ref (a1 7), .int (mch_routerConfiguration z1)])), (a1 1, .inl (cN, 6, .inr (.inr (.inr (.inr g))))), (a1 2, .inr (3, [.ref (a1 3), .ref (a1 4), .ref (a1 5), .int (mbk_count (mch_book z1))])), (a1 3, .inl (cI, 31, .inl (mbk_kinds (mch_book z1)))), (a1 4, .inl (cI, 31, .inl (mbk_keys (mch_book z1)))), (a1 5, .inl (cI, 31, .inl (mbk_numbers (mch_book z1)))), (a1 6, .inl (cI, 31, .inl (mch_heardAnswers z1))), (a1 7, .inl (cI, 31, .inl (mch_heardCounts z1))), (a2 0, .inr (2, [.int (mnd_number z2), .int (mnd_up z2), .ref (a2 1), .ref (a2 4), .int (mnd_last z2), .int (mnd_retired z2), .ref (a2 8), .int (mnd_pending z2), .ref (a2 9)])), (a2 1, .inr (4, [.int (mst_configuration (mnd_state z2)), .int (mst_membership (mnd_state z2)), .int (mst_executed (mnd_state z2)), .ref (a2 2), .int (mst_doneBits (mnd_state z2)), .ref (a2 3)])), (a2 2, .inl (cI, 4, .inl (mst_values (mnd_state z2)))), (a2 3, .inl (cI, 31, .inl (mst_answers (mnd_state z2)))), (a2 4, .inr (1, [.ref (a2 5), .ref (a2 6), .ref (a2 7)])), (a2 5, .inl (cI, 40, .inl (mlg_promisedBallots (mnd_ledger z2)))), (a2 6, .inl (cI, 40, .inl (mlg_voteBallots (mnd_ledger z2)))), (a2 7, .inl (cI, 40, .inl (mlg_voteCommands (mnd_ledger z2)))), (a2 8, .inl (cI, 9, .inl (mnd_knownCommands z2))), (a2 9, .inr (0, [.int (mat_slot (mnd_attempt z2)), .int (mat_ballot (mnd_attempt z2)), .int (mat_promisers (mnd_attempt z2)), .int (mat_voters (mnd_attempt z2)), .int (mat_bestBallot (mnd_attempt z2)), .int (mat_bestCommand (mnd_attempt z2)), .int (mat_command (mnd_attempt z2))]))]) (km_rS (n := 1) hE kmG (c_Ch_isNode l D cI cN cZ x1 _ hw) mw_228 mw_226 mw_227 mw_1 (by decide) ⟨rfl, rfl, ⟨by decide, by decide⟩, by decide, by decide⟩ hK (km_cut hP [] rfl) (hD.sub [] (by decide) rfl) rfl hl.1 rfl (Nat.le_of_ble_eq_true rfl) d_Ch_vote_1) hP hD hS hA [] [0, 1, 2, 3, 4, 5, 6, 7, 8, 9, 10, 11, 12, 13, 14, 15, 16, 17] rfl rfl (by decide) (by decide) (fun r1 _ H locs hw hP hD hS => ?_)
  have hP := hP.sub (ws' := (mchW cI cN cZ a1 g z1 ++ mndW cI cN cZ a2 z2)) [0, 1, 2, 3, 4, 5, 6, 7, 8, 9, 10, 11, 12, 13, 14, 15, 16, 17] rfl
  have hD := hD.sub (ws' := (mchW cI cN cZ a1 g z1 ++ mndW cI cN cZ a2 z2)) [0, 1, 2, 3, 4, 5, 6, 7, 8, 9, 10, 11, 12, 13, 14, 15, 16, 17] (by decide) rfl
  refine lv_if_eq (tgt := 21) hx hb d_Ch_vote_4 (by first | rfl | decide) (fun h2 => ?_) (fun h2 => ?_)
  · have hw := hw.1 h2
    refine lv_iconst (v := (-1 : Int32)) hx hb d_Ch_vote_21 (by decide) ?_
    exact W.iret (v := (-1 : Int32)) hx hb hr (fun t ht hW => ⟨⟨(-1 : Int32), (z1, z2), rfl, hw, by rw [ht]; exact hP, hD⟩, hS.F ht⟩) hS.2.2 d_Ch_vote_22
  · have hw := hw.2 h2
    refine lv_iload_n hx hb d_Ch_vote_7 rfl (lv_at hl 2 rfl) ?_
    refine km_ci (wr := [(a1 0, .inr (5, [.ref (a1 1), .ref (a1 2), .ref (a1 6), .ref (a1 7), .int (mch_routerConfiguration z1)])), (a1 1, .inl (cN, 6, .inr (.inr (.inr (.inr g))))), (a1 2, .inr (3, [.ref (a1 3), .ref (a1 4), .ref (a1 5), .int (mbk_count (mch_book z1))])), (a1 3, .inl (cI, 31, .inl (mbk_kinds (mch_book z1)))), (a1 4, .inl (cI, 31, .inl (mbk_keys (mch_book z1)))), (a1 5, .inl (cI, 31, .inl (mbk_numbers (mch_book z1)))), (a1 6, .inl (cI, 31, .inl (mch_heardAnswers z1))), (a1 7, .inl (cI, 31, .inl (mch_heardCounts z1))), (a2 0, .inr (2, [.int (mnd_number z2), .int (mnd_up z2), .ref (a2 1), .ref (a2 4), .int (mnd_last z2), .int (mnd_retired z2), .ref (a2 8), .int (mnd_pending z2), .ref (a2 9)])), (a2 1, .inr (4, [.int (mst_configuration (mnd_state z2)), .int (mst_membership (mnd_state z2)), .int (mst_executed (mnd_state z2)), .ref (a2 2), .int (mst_doneBits (mnd_state z2)), .ref (a2 3)])), (a2 2, .inl (cI, 4, .inl (mst_values (mnd_state z2)))), (a2 3, .inl (cI, 31, .inl (mst_answers (mnd_state z2)))), (a2 4, .inr (1, [.ref (a2 5), .ref (a2 6), .ref (a2 7)])), (a2 5, .inl (cI, 40, .inl (mlg_promisedBallots (mnd_ledger z2)))), (a2 6, .inl (cI, 40, .inl (mlg_voteBallots (mnd_ledger z2)))), (a2 7, .inl (cI, 40, .inl (mlg_voteCommands (mnd_ledger z2)))), (a2 8, .inl (cI, 9, .inl (mnd_knownCommands z2))), (a2 9, .inr (0, [.int (mat_slot (mnd_attempt z2)), .int (mat_ballot (mnd_attempt z2)), .int (mat_promisers (mnd_attempt z2)), .int (mat_voters (mnd_attempt z2)), .int (mat_bestBallot (mnd_attempt z2)), .int (mat_bestCommand (mnd_attempt z2)), .int (mat_command (mnd_attempt z2))]))]) (km_rS (n := 1) hE kmG (c_Ch_isConfiguration l D cI cN cZ x2 _ hw) mw_403 mw_401 mw_402 mw_1 (by decide) ⟨rfl, rfl, ⟨by decide, by decide⟩, by decide, by decide⟩ hK (km_cut hP [] rfl) (hD.sub [] (by decide) rfl) rfl hl.1 rfl (Nat.le_of_ble_eq_true rfl) d_Ch_vote_8) hP hD hS hA [] [0, 1, 2, 3, 4, 5, 6, 7, 8, 9, 10, 11, 12, 13, 14, 15, 16, 17] rfl rfl (by decide) (by decide) (fun r3 _ H locs hw hP hD hS => ?_)
    have hP := hP.sub (ws' := (mchW cI cN cZ a1 g z1 ++ mndW cI cN cZ a2 z2)) [0, 1, 2, 3, 4, 5, 6, 7, 8, 9, 10, 11, 12, 13, 14, 15, 16, 17] rfl
    have hD := hD.sub (ws' := (mchW cI cN cZ a1 g z1 ++ mndW cI cN cZ a2 z2)) [0, 1, 2, 3, 4, 5, 6, 7, 8, 9, 10, 11, 12, 13, 14, 15, 16, 17] (by decide) rfl
    refine lv_if_eq (tgt := 21) hx hb d_Ch_vote_11 (by first | rfl | decide) (fun h4 => ?_) (fun h4 => ?_)
    · have hw := hw.1 h4
      refine lv_iconst (v := (-1 : Int32)) hx hb d_Ch_vote_21 (by decide) ?_
      exact W.iret (v := (-1 : Int32)) hx hb hr (fun t ht hW => ⟨⟨(-1 : Int32), (z1, z2), rfl, hw, by rw [ht]; exact hP, hD⟩, hS.F ht⟩) hS.2.2 d_Ch_vote_22
    · have hw := hw.2 h4
      refine lv_iload_n hx hb d_Ch_vote_14 rfl (lv_at hl 3 rfl) ?_
      refine km_ci (wr := [(a1 0, .inr (5, [.ref (a1 1), .ref (a1 2), .ref (a1 6), .ref (a1 7), .int (mch_routerConfiguration z1)])), (a1 1, .inl (cN, 6, .inr (.inr (.inr (.inr g))))), (a1 2, .inr (3, [.ref (a1 3), .ref (a1 4), .ref (a1 5), .int (mbk_count (mch_book z1))])), (a1 3, .inl (cI, 31, .inl (mbk_kinds (mch_book z1)))), (a1 4, .inl (cI, 31, .inl (mbk_keys (mch_book z1)))), (a1 5, .inl (cI, 31, .inl (mbk_numbers (mch_book z1)))), (a1 6, .inl (cI, 31, .inl (mch_heardAnswers z1))), (a1 7, .inl (cI, 31, .inl (mch_heardCounts z1))), (a2 0, .inr (2, [.int (mnd_number z2), .int (mnd_up z2), .ref (a2 1), .ref (a2 4), .int (mnd_last z2), .int (mnd_retired z2), .ref (a2 8), .int (mnd_pending z2), .ref (a2 9)])), (a2 1, .inr (4, [.int (mst_configuration (mnd_state z2)), .int (mst_membership (mnd_state z2)), .int (mst_executed (mnd_state z2)), .ref (a2 2), .int (mst_doneBits (mnd_state z2)), .ref (a2 3)])), (a2 2, .inl (cI, 4, .inl (mst_values (mnd_state z2)))), (a2 3, .inl (cI, 31, .inl (mst_answers (mnd_state z2)))), (a2 4, .inr (1, [.ref (a2 5), .ref (a2 6), .ref (a2 7)])), (a2 5, .inl (cI, 40, .inl (mlg_promisedBallots (mnd_ledger z2)))), (a2 6, .inl (cI, 40, .inl (mlg_voteBallots (mnd_ledger z2)))), (a2 7, .inl (cI, 40, .inl (mlg_voteCommands (mnd_ledger z2)))), (a2 8, .inl (cI, 9, .inl (mnd_knownCommands z2))), (a2 9, .inr (0, [.int (mat_slot (mnd_attempt z2)), .int (mat_ballot (mnd_attempt z2)), .int (mat_promisers (mnd_attempt z2)), .int (mat_voters (mnd_attempt z2)), .int (mat_bestBallot (mnd_attempt z2)), .int (mat_bestCommand (mnd_attempt z2)), .int (mat_command (mnd_attempt z2))]))]) (km_rS (n := 1) hE kmG (c_Ch_isSlot l D cI cN cZ x3 _ hw) mw_251 mw_404 mw_250 mw_1 (by decide) ⟨rfl, rfl, ⟨by decide, by decide⟩, by decide, by decide⟩ hK (km_cut hP [] rfl) (hD.sub [] (by decide) rfl) rfl hl.1 rfl (Nat.le_of_ble_eq_true rfl) d_Ch_vote_15) hP hD hS hA [] [0, 1, 2, 3, 4, 5, 6, 7, 8, 9, 10, 11, 12, 13, 14, 15, 16, 17] rfl rfl (by decide) (by decide) (fun r5 _ H locs hw hP hD hS => ?_)
      have hP := hP.sub (ws' := (mchW cI cN cZ a1 g z1 ++ mndW cI cN cZ a2 z2)) [0, 1, 2, 3, 4, 5, 6, 7, 8, 9, 10, 11, 12, 13, 14, 15, 16, 17] rfl
      have hD := hD.sub (ws' := (mchW cI cN cZ a1 g z1 ++ mndW cI cN cZ a2 z2)) [0, 1, 2, 3, 4, 5, 6, 7, 8, 9, 10, 11, 12, 13, 14, 15, 16, 17] (by decide) rfl
      refine lv_if_ne (tgt := 23) hx hb d_Ch_vote_18 (by first | rfl | decide) (fun h6 => ?_) (fun h6 => ?_)
      · have hw := hw.2 h6
        refine lv_aload_n hx hb d_Ch_vote_23 rfl (lv_at hl 0 rfl) ?_
        refine va_get (D := D) (ci := 5) (v := .ref (a1 1)) (C := R_Ch) (T := F_Ch) (N := 5) hx hb hts iw_Ch hown hK.1 hP 0 rfl rfl 0 (by decide) (hts _ mw_178) (fun _ h => h) rfl d_Ch_vote_24 ?_
        refine lv_iload_n hx hb d_Ch_vote_27 rfl (lv_at hl 1 rfl) ?_
        obtain ⟨hk, hw⟩ := hw
        refine km_ald hx hb hK.1 hP 1 1 rfl rfl hk hk2 (by decide) hg2 d_Ch_vote_28 ?_
        refine va_getN (D := D) (ci := 2) (v := .ref (a2 4)) (C := R_Nd) (T := F_Nd) (N := 9) hx hb hts iw_Nd hown hK.1 hP 8 rfl rfl 3 (by decide) (km_nF hK 22 rfl) (fun _ h => h) rfl d_Ch_vote_29 ?_
        refine lv_astore (lv' := [(4, .ref (a2 4)), (0, .ref (a1 0)), (1, .int x1), (2, .int x2), (3, .int x3)]) hx hb d_Ch_vote_32 hl (by decide) rfl (fun ls hl => ?_)
        refine lv_iload_n hx hb d_Ch_vote_34 rfl (lv_at hl 3 rfl) ?_
        refine lv_iload_n hx hb d_Ch_vote_35 rfl (lv_at hl 4 rfl) ?_
        refine km_ci (wr := [(a1 0, .inr (5, [.ref (a1 1), .ref (a1 2), .ref (a1 6), .ref (a1 7), .int (mch_routerConfiguration z1)])), (a1 1, .inl (cN, 6, .inr (.inr (.inr (.inr g))))), (a1 2, .inr (3, [.ref (a1 3), .ref (a1 4), .ref (a1 5), .int (mbk_count (mch_book z1))])), (a1 3, .inl (cI, 31, .inl (mbk_kinds (mch_book z1)))), (a1 4, .inl (cI, 31, .inl (mbk_keys (mch_book z1)))), (a1 5, .inl (cI, 31, .inl (mbk_numbers (mch_book z1)))), (a1 6, .inl (cI, 31, .inl (mch_heardAnswers z1))), (a1 7, .inl (cI, 31, .inl (mch_heardCounts z1))), (a2 0, .inr (2, [.int (mnd_number z2), .int (mnd_up z2), .ref (a2 1), .ref (a2 4), .int (mnd_last z2), .int (mnd_retired z2), .ref (a2 8), .int (mnd_pending z2), .ref (a2 9)])), (a2 1, .inr (4, [.int (mst_configuration (mnd_state z2)), .int (mst_membership (mnd_state z2)), .int (mst_executed (mnd_state z2)), .ref (a2 2), .int (mst_doneBits (mnd_state z2)), .ref (a2 3)])), (a2 2, .inl (cI, 4, .inl (mst_values (mnd_state z2)))), (a2 3, .inl (cI, 31, .inl (mst_answers (mnd_state z2)))), (a2 4, .inr (1, [.ref (a2 5), .ref (a2 6), .ref (a2 7)])), (a2 5, .inl (cI, 40, .inl (mlg_promisedBallots (mnd_ledger z2)))), (a2 6, .inl (cI, 40, .inl (mlg_voteBallots (mnd_ledger z2)))), (a2 7, .inl (cI, 40, .inl (mlg_voteCommands (mnd_ledger z2)))), (a2 8, .inl (cI, 9, .inl (mnd_knownCommands z2))), (a2 9, .inr (0, [.int (mat_slot (mnd_attempt z2)), .int (mat_ballot (mnd_attempt z2)), .int (mat_promisers (mnd_attempt z2)), .int (mat_voters (mnd_attempt z2)), .int (mat_bestBallot (mnd_attempt z2)), .int (mat_bestCommand (mnd_attempt z2)), .int (mat_command (mnd_attempt z2))]))]) (km_rSN (n := 2) hE kmG (c_Lg_cellOf l D cI cN cZ x2 x3 _ hw) mw_309 (km_nM hK 21 rfl) mw_308 mw_4 (by decide) ⟨rfl, rfl, ⟨by decide, by decide⟩, by decide, by decide⟩ hK (km_cut hP [] rfl) (hD.sub [] (by decide) rfl) rfl hl.1 rfl (Nat.le_of_ble_eq_true rfl) d_Ch_vote_36) hP hD hS hA [] [0, 1, 2, 3, 4, 5, 6, 7, 8, 9, 10, 11, 12, 13, 14, 15, 16, 17] rfl rfl (by decide) (by decide) (fun r7 _ H locs hw hP hD hS => ?_)
        have hP := hP.sub (ws' := (mchW cI cN cZ a1 g z1 ++ mndW cI cN cZ a2 z2)) [0, 1, 2, 3, 4, 5, 6, 7, 8, 9, 10, 11, 12, 13, 14, 15, 16, 17] rfl
        have hD := hD.sub (ws' := (mchW cI cN cZ a1 g z1 ++ mndW cI cN cZ a2 z2)) [0, 1, 2, 3, 4, 5, 6, 7, 8, 9, 10, 11, 12, 13, 14, 15, 16, 17] (by decide) rfl
        refine lv_istore (lv' := [(5, .int r7), (4, .ref (a2 4)), (0, .ref (a1 0)), (1, .int x1), (2, .int x2), (3, .int x3)]) hx hb d_Ch_vote_39 hl (by decide) rfl (fun ls hl => ?_)
        refine lv_bipush (v := (64 : Int32)) hx hb d_Ch_vote_41 (by decide) ?_
        refine lv_aload hx hb d_Ch_vote_43 (lv_at hl 1 rfl) ?_
        refine va_getN (D := D) (ci := 1) (v := .ref (a2 6)) (C := R_Lg) (T := F_Lg) (N := 3) hx hb hts iw_Lg hown hK.1 hP 12 rfl rfl 1 (by decide) (km_nF hK 8 rfl) (fun _ h => h) rfl d_Ch_vote_45 ?_
        refine lv_iload hx hb d_Ch_vote_48 (lv_at hl 0 rfl) ?_
        obtain ⟨hin, hw⟩ := hw
        refine va_iald (f := (mlg_voteBallots (mnd_ledger z2))) hx hb hK.1 hP 14 0 rfl rfl hin d_Ch_vote_50 ?_
        refine lv_imul hx hb d_Ch_vote_51 ?_
        refine lv_aload hx hb d_Ch_vote_52 (lv_at hl 1 rfl) ?_
        refine va_getN (D := D) (ci := 1) (v := .ref (a2 7)) (C := R_Lg) (T := F_Lg) (N := 3) hx hb hts iw_Lg hown hK.1 hP 12 rfl rfl 2 (by decide) (km_nF hK 9 rfl) (fun _ h => h) rfl d_Ch_vote_54 ?_
        refine lv_iload hx hb d_Ch_vote_57 (lv_at hl 0 rfl) ?_
        obtain ⟨hin, hw⟩ := hw
        refine va_iald (f := (mlg_voteCommands (mnd_ledger z2))) hx hb hK.1 hP 15 0 rfl rfl hin d_Ch_vote_59 ?_
        refine lv_iadd hx hb d_Ch_vote_60 ?_
        exact W.iret (v := (((64 : Int32) * ((mlg_voteBallots (mnd_ledger z2)) (r7).toNatClampNeg)) + ((mlg_voteCommands (mnd_ledger z2)) (r7).toNatClampNeg))) hx hb hr (fun t ht hW => ⟨⟨(((64 : Int32) * ((mlg_voteBallots (mnd_ledger z2)) (r7).toNatClampNeg)) + ((mlg_voteCommands (mnd_ledger z2)) (r7).toNatClampNeg)), (z1, z2), rfl, hw, by rw [ht]; exact hP, hD⟩, hS.F ht⟩) hS.2.2 d_Ch_vote_61
      · have hw := hw.1 h6
        refine lv_iconst (v := (-1 : Int32)) hx hb d_Ch_vote_21 (by decide) ?_
        exact W.iret (v := (-1 : Int32)) hx hb hr (fun t ht hW => ⟨⟨(-1 : Int32), (z1, z2), rfl, hw, by rw [ht]; exact hP, hD⟩, hS.F ht⟩) hS.2.2 d_Ch_vote_22
set_option maxHeartbeats 4000000 in
set_option maxRecDepth 100000 in
theorem c_Ch_known (l : Launch) (D : va_G) (cI cN cZ : ClassId) (a1 : Nat → Nat) (a2 : Nat → Nat) (g : Nat → Option Nat) (k2 : Nat) (hk2 : k2 < 6) (hg2 : g k2 = some (a2 0)) (z1 : MchT) (z2 : MndT) (x1 : Int32) (x2 : Int32) (post : Int32 → MchT → MndT → Prop) (hw : wp_Ch_known k2 z1 z2 x1 x2 post) : km_I l y_Ch_known (.code y_Ch_known b_Ch_known 3 (some .int) :: kmW) rm_Ch_known D kmC (kmT cI cN cZ) kmF kmM [.ref (a1 0), .int x1, .int x2] (mchW cI cN cZ a1 g z1 ++ mndW cI cN cZ a2 z2) (fun (r : Int32) (u : MchT × MndT) => post r u.1 u.2) (fun (u : MchT × MndT) => (mchW cI cN cZ a1 g u.1 ++ mndW cI cN cZ a2 u.2)) 0 0 := by
  refine km_startI (cc := b_Ch_known) (maxL := 3) (ret := (some .int)) (by decide) rfl (Nat.le_of_ble_eq_true rfl) ?_
  intro p e s m below meth c A ls hE hA hK hP hD hS hl
  obtain ⟨hx, hb, hr, hml, hown, hts0, hlk, hnm⟩ := id hE
  have hts : ∀ w ∈ kmW, w.before ([.ref (a1 0), .int x1, .int x2] : List Value).toArray s = true := fun w h => hts0 w (List.mem_cons_of_mem _ h)
  have hP : va_P D kmC (mchW cI cN cZ a1 g z1 ++ mndW cI cN cZ a2 z2) s.heap := hP
  have hl : lv_has ls 3 [(0, .ref (a1 0)), (1, .int x1), (2, .int x2)] := hl
  unfold wp_Ch_known at hw
  refine lv_iload_n hx hb d_Ch_known_0 rfl (lv_at hl 1 rfl) ?_
  refine km_ci (wr := [(a1 0, .inr (5, [.ref (a1 1), .ref (a1 2), .ref (a1 6), .ref (a1 7), .int (mch_routerConfiguration z1)])), (a1 1, .inl (cN, 6, .inr (.inr (.inr (.inr g))))), (a1 2, .inr (3, [.ref (a1 3), .ref (a1 4), .ref (a1 5), .int (mbk_count (mch_book z1))])), (a1 3, .inl (cI, 31, .inl (mbk_kinds (mch_book z1)))), (a1 4, .inl (cI, 31, .inl (mbk_keys (mch_book z1)))), (a1 5, .inl (cI, 31, .inl (mbk_numbers (mch_book z1)))), (a1 6, .inl (cI, 31, .inl (mch_heardAnswers z1))), (a1 7, .inl (cI, 31, .inl (mch_heardCounts z1))), (a2 0, .inr (2, [.int (mnd_number z2), .int (mnd_up z2), .ref (a2 1), .ref (a2 4), .int (mnd_last z2), .int (mnd_retired z2), .ref (a2 8), .int (mnd_pending z2), .ref (a2 9)])), (a2 1, .inr (4, [.int (mst_configuration (mnd_state z2)), .int (mst_membership (mnd_state z2)), .int (mst_executed (mnd_state z2)), .ref (a2 2), .int (mst_doneBits (mnd_state z2)), .ref (a2 3)])), (a2 2, .inl (cI, 4, .inl (mst_values (mnd_state z2)))), (a2 3, .inl (cI, 31, .inl (mst_answers (mnd_state z2)))), (a2 4, .inr (1, [.ref (a2 5), .ref (a2 6), .ref (a2 7)])), (a2 5, .inl (cI, 40, .inl (mlg_promisedBallots (mnd_ledger z2)))), (a2 6, .inl (cI, 40, .inl (mlg_voteBallots (mnd_ledger z2)))), (a2 7, .inl (cI, 40, .inl (mlg_voteCommands (mnd_ledger z2)))), (a2 8, .inl (cI, 9, .inl (mnd_knownCommands z2))), (a2 9, .inr (0, [.int (mat_slot (mnd_attempt z2)), .int (mat_ballot (mnd_attempt z2)), .int (mat_promisers (mnd_attempt z2)), .int (mat_voters (mnd_attempt z2)), .int (mat_bestBallot (mnd_attempt z2)), .int (mat_bestCommand (mnd_attempt z2)), .int (mat_command (mnd_attempt z2))]))]) (km_rS (n := 1) hE kmG (c_Ch_isNode l D cI cN cZ x1 _ hw) mw_228 mw_226 mw_227 mw_1 (by decide) ⟨rfl, rfl, ⟨by decide, by decide⟩, by decide, by decide⟩ hK (km_cut hP [] rfl) (hD.sub [] (by decide) rfl) rfl hl.1 rfl (Nat.le_of_ble_eq_true rfl) d_Ch_known_1) hP hD hS hA [] [0, 1, 2, 3, 4, 5, 6, 7, 8, 9, 10, 11, 12, 13, 14, 15, 16, 17] rfl rfl (by decide) (by decide) (fun r1 _ H locs hw hP hD hS => ?_)
  have hP := hP.sub (ws' := (mchW cI cN cZ a1 g z1 ++ mndW cI cN cZ a2 z2)) [0, 1, 2, 3, 4, 5, 6, 7, 8, 9, 10, 11, 12, 13, 14, 15, 16, 17] rfl
  have hD := hD.sub (ws' := (mchW cI cN cZ a1 g z1 ++ mndW cI cN cZ a2 z2)) [0, 1, 2, 3, 4, 5, 6, 7, 8, 9, 10, 11, 12, 13, 14, 15, 16, 17] (by decide) rfl
  refine lv_if_eq (tgt := 28) hx hb d_Ch_known_4 (by first | rfl | decide) (fun h2 => ?_) (fun h2 => ?_)
  · have hw := hw.1 h2
    refine lv_iconst (v := (-1 : Int32)) hx hb d_Ch_known_28 (by decide) ?_
    exact W.iret (v := (-1 : Int32)) hx hb hr (fun t ht hW => ⟨⟨(-1 : Int32), (z1, z2), rfl, hw, by rw [ht]; exact hP, hD⟩, hS.F ht⟩) hS.2.2 d_Ch_known_29
  · have hw := hw.2 h2
    refine lv_iload_n hx hb d_Ch_known_7 rfl (lv_at hl 2 rfl) ?_
    refine km_ci (wr := [(a1 0, .inr (5, [.ref (a1 1), .ref (a1 2), .ref (a1 6), .ref (a1 7), .int (mch_routerConfiguration z1)])), (a1 1, .inl (cN, 6, .inr (.inr (.inr (.inr g))))), (a1 2, .inr (3, [.ref (a1 3), .ref (a1 4), .ref (a1 5), .int (mbk_count (mch_book z1))])), (a1 3, .inl (cI, 31, .inl (mbk_kinds (mch_book z1)))), (a1 4, .inl (cI, 31, .inl (mbk_keys (mch_book z1)))), (a1 5, .inl (cI, 31, .inl (mbk_numbers (mch_book z1)))), (a1 6, .inl (cI, 31, .inl (mch_heardAnswers z1))), (a1 7, .inl (cI, 31, .inl (mch_heardCounts z1))), (a2 0, .inr (2, [.int (mnd_number z2), .int (mnd_up z2), .ref (a2 1), .ref (a2 4), .int (mnd_last z2), .int (mnd_retired z2), .ref (a2 8), .int (mnd_pending z2), .ref (a2 9)])), (a2 1, .inr (4, [.int (mst_configuration (mnd_state z2)), .int (mst_membership (mnd_state z2)), .int (mst_executed (mnd_state z2)), .ref (a2 2), .int (mst_doneBits (mnd_state z2)), .ref (a2 3)])), (a2 2, .inl (cI, 4, .inl (mst_values (mnd_state z2)))), (a2 3, .inl (cI, 31, .inl (mst_answers (mnd_state z2)))), (a2 4, .inr (1, [.ref (a2 5), .ref (a2 6), .ref (a2 7)])), (a2 5, .inl (cI, 40, .inl (mlg_promisedBallots (mnd_ledger z2)))), (a2 6, .inl (cI, 40, .inl (mlg_voteBallots (mnd_ledger z2)))), (a2 7, .inl (cI, 40, .inl (mlg_voteCommands (mnd_ledger z2)))), (a2 8, .inl (cI, 9, .inl (mnd_knownCommands z2))), (a2 9, .inr (0, [.int (mat_slot (mnd_attempt z2)), .int (mat_ballot (mnd_attempt z2)), .int (mat_promisers (mnd_attempt z2)), .int (mat_voters (mnd_attempt z2)), .int (mat_bestBallot (mnd_attempt z2)), .int (mat_bestCommand (mnd_attempt z2)), .int (mat_command (mnd_attempt z2))]))]) (km_rS (n := 1) hE kmG (c_Ch_isSlot l D cI cN cZ x2 _ hw) mw_251 mw_404 mw_250 mw_1 (by decide) ⟨rfl, rfl, ⟨by decide, by decide⟩, by decide, by decide⟩ hK (km_cut hP [] rfl) (hD.sub [] (by decide) rfl) rfl hl.1 rfl (Nat.le_of_ble_eq_true rfl) d_Ch_known_8) hP hD hS hA [] [0, 1, 2, 3, 4, 5, 6, 7, 8, 9, 10, 11, 12, 13, 14, 15, 16, 17] rfl rfl (by decide) (by decide) (fun r3 _ H locs hw hP hD hS => ?_)
    have hP := hP.sub (ws' := (mchW cI cN cZ a1 g z1 ++ mndW cI cN cZ a2 z2)) [0, 1, 2, 3, 4, 5, 6, 7, 8, 9, 10, 11, 12, 13, 14, 15, 16, 17] rfl
    have hD := hD.sub (ws' := (mchW cI cN cZ a1 g z1 ++ mndW cI cN cZ a2 z2)) [0, 1, 2, 3, 4, 5, 6, 7, 8, 9, 10, 11, 12, 13, 14, 15, 16, 17] (by decide) rfl
    refine lv_if_eq (tgt := 28) hx hb d_Ch_known_11 (by first | rfl | decide) (fun h4 => ?_) (fun h4 => ?_)
    · have hw := hw.1 h4
      refine lv_iconst (v := (-1 : Int32)) hx hb d_Ch_known_28 (by decide) ?_
      exact W.iret (v := (-1 : Int32)) hx hb hr (fun t ht hW => ⟨⟨(-1 : Int32), (z1, z2), rfl, hw, by rw [ht]; exact hP, hD⟩, hS.F ht⟩) hS.2.2 d_Ch_known_29
    · have hw := hw.2 h4
      refine lv_aload_n hx hb d_Ch_known_14 rfl (lv_at hl 0 rfl) ?_
      refine va_get (D := D) (ci := 5) (v := .ref (a1 1)) (C := R_Ch) (T := F_Ch) (N := 5) hx hb hts iw_Ch hown hK.1 hP 0 rfl rfl 0 (by decide) (hts _ mw_178) (fun _ h => h) rfl d_Ch_known_15 ?_
      refine lv_iload_n hx hb d_Ch_known_18 rfl (lv_at hl 1 rfl) ?_
      obtain ⟨hk, hw⟩ := hw
      refine km_ald hx hb hK.1 hP 1 1 rfl rfl hk hk2 (by decide) hg2 d_Ch_known_19 ?_
      refine va_getN (D := D) (ci := 2) (v := .ref (a2 8)) (C := R_Nd) (T := F_Nd) (N := 9) hx hb hts iw_Nd hown hK.1 hP 8 rfl rfl 6 (by decide) (km_nF hK 25 rfl) (fun _ h => h) rfl d_Ch_known_20 ?_
      refine lv_iload_n hx hb d_Ch_known_23 rfl (lv_at hl 2 rfl) ?_
      obtain ⟨hin, hw⟩ := hw
      refine va_iald (f := (mnd_knownCommands z2)) hx hb hK.1 hP 16 0 rfl rfl hin d_Ch_known_24 ?_
      refine lv_goto (tgt := 29) hx hb d_Ch_known_25 (by first | rfl | decide) ?_
      exact W.iret (v := ((mnd_knownCommands z2) (x2).toNatClampNeg)) hx hb hr (fun t ht hW => ⟨⟨((mnd_knownCommands z2) (x2).toNatClampNeg), (z1, z2), rfl, hw, by rw [ht]; exact hP, hD⟩, hS.F ht⟩) hS.2.2 d_Ch_known_29
