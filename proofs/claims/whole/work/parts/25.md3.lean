theorem d_Md_ask_0 : decode b_Md_ask 0 = .ok (.iload_n 1, 1) := by decide +kernel
theorem d_Md_ask_1 : decode b_Md_ask 1 = .ok (.ifCond .lt 26, 3) := by decide +kernel
theorem d_Md_ask_4 : decode b_Md_ask 4 = .ok (.iload_n 1, 1) := by decide +kernel
theorem d_Md_ask_5 : decode b_Md_ask 5 = .ok (.iconst 3, 1) := by decide +kernel
theorem d_Md_ask_6 : decode b_Md_ask 6 = .ok (.if_icmp .gt 21, 3) := by decide +kernel
theorem d_Md_ask_9 : decode b_Md_ask 9 = .ok (.iload_n 2, 1) := by decide +kernel
theorem d_Md_ask_10 : decode b_Md_ask 10 = .ok (.ifCond .lt 17, 3) := by decide +kernel
theorem d_Md_ask_13 : decode b_Md_ask 13 = .ok (.iload_n 2, 1) := by decide +kernel
theorem d_Md_ask_14 : decode b_Md_ask 14 = .ok (.iconst 3, 1) := by decide +kernel
theorem d_Md_ask_15 : decode b_Md_ask 15 = .ok (.if_icmp .gt 12, 3) := by decide +kernel
theorem d_Md_ask_18 : decode b_Md_ask 18 = .ok (.aload_n 0, 1) := by decide +kernel
theorem d_Md_ask_19 : decode b_Md_ask 19 = .ok (.getfield 129, 3) := by decide +kernel
theorem d_Md_ask_22 : decode b_Md_ask 22 = .ok (.bipush 30, 2) := by decide +kernel
theorem d_Md_ask_24 : decode b_Md_ask 24 = .ok (.if_icmp .ne 5, 3) := by decide +kernel
theorem d_Md_ask_27 : decode b_Md_ask 27 = .ok (.iconst (-1), 1) := by decide +kernel
theorem d_Md_ask_28 : decode b_Md_ask 28 = .ok (.ireturn, 1) := by decide +kernel
theorem d_Md_ask_29 : decode b_Md_ask 29 = .ok (.iload_n 1, 1) := by decide +kernel
theorem d_Md_ask_30 : decode b_Md_ask 30 = .ok (.iconst 3, 1) := by decide +kernel
theorem d_Md_ask_31 : decode b_Md_ask 31 = .ok (.if_icmp .ne 31, 3) := by decide +kernel
theorem d_Md_ask_34 : decode b_Md_ask 34 = .ok (.iload_n 3, 1) := by decide +kernel
theorem d_Md_ask_35 : decode b_Md_ask 35 = .ok (.ifCond .lt 25, 3) := by decide +kernel
theorem d_Md_ask_38 : decode b_Md_ask 38 = .ok (.iload_n 3, 1) := by decide +kernel
theorem d_Md_ask_39 : decode b_Md_ask 39 = .ok (.bipush 63, 2) := by decide +kernel
theorem d_Md_ask_41 : decode b_Md_ask 41 = .ok (.if_icmp .gt 19, 3) := by decide +kernel
theorem d_Md_ask_44 : decode b_Md_ask 44 = .ok (.iload_n 3, 1) := by decide +kernel
theorem d_Md_ask_45 : decode b_Md_ask 45 = .ok (.invokestatic 114, 3) := by decide +kernel
theorem d_Md_ask_48 : decode b_Md_ask 48 = .ok (.iconst 3, 1) := by decide +kernel
theorem d_Md_ask_49 : decode b_Md_ask 49 = .ok (.if_icmp .lt 11, 3) := by decide +kernel
theorem d_Md_ask_52 : decode b_Md_ask 52 = .ok (.iload_n 3, 1) := by decide +kernel
theorem d_Md_ask_53 : decode b_Md_ask 53 = .ok (.invokestatic 114, 3) := by decide +kernel
theorem d_Md_ask_56 : decode b_Md_ask 56 = .ok (.iconst 5, 1) := by decide +kernel
theorem d_Md_ask_57 : decode b_Md_ask 57 = .ok (.if_icmp .le 5, 3) := by decide +kernel
theorem d_Md_ask_60 : decode b_Md_ask 60 = .ok (.iconst (-1), 1) := by decide +kernel
theorem d_Md_ask_61 : decode b_Md_ask 61 = .ok (.ireturn, 1) := by decide +kernel
theorem d_Md_ask_62 : decode b_Md_ask 62 = .ok (.aload_n 0, 1) := by decide +kernel
theorem d_Md_ask_63 : decode b_Md_ask 63 = .ok (.dup, 1) := by decide +kernel
theorem d_Md_ask_64 : decode b_Md_ask 64 = .ok (.getfield 129, 3) := by decide +kernel
theorem d_Md_ask_67 : decode b_Md_ask 67 = .ok (.iconst 1, 1) := by decide +kernel
theorem d_Md_ask_68 : decode b_Md_ask 68 = .ok (.iadd, 1) := by decide +kernel
theorem d_Md_ask_69 : decode b_Md_ask 69 = .ok (.putfield 129, 3) := by decide +kernel
theorem d_Md_ask_72 : decode b_Md_ask 72 = .ok (.aload_n 0, 1) := by decide +kernel
theorem d_Md_ask_73 : decode b_Md_ask 73 = .ok (.getfield 7, 3) := by decide +kernel
theorem d_Md_ask_76 : decode b_Md_ask 76 = .ok (.aload_n 0, 1) := by decide +kernel
theorem d_Md_ask_77 : decode b_Md_ask 77 = .ok (.getfield 129, 3) := by decide +kernel
theorem d_Md_ask_80 : decode b_Md_ask 80 = .ok (.iload_n 1, 1) := by decide +kernel
theorem d_Md_ask_81 : decode b_Md_ask 81 = .ok (.iastore, 1) := by decide +kernel
theorem d_Md_ask_82 : decode b_Md_ask 82 = .ok (.aload_n 0, 1) := by decide +kernel
theorem d_Md_ask_83 : decode b_Md_ask 83 = .ok (.getfield 13, 3) := by decide +kernel
theorem d_Md_ask_86 : decode b_Md_ask 86 = .ok (.aload_n 0, 1) := by decide +kernel
theorem d_Md_ask_87 : decode b_Md_ask 87 = .ok (.getfield 129, 3) := by decide +kernel
theorem d_Md_ask_90 : decode b_Md_ask 90 = .ok (.iload_n 2, 1) := by decide +kernel
theorem d_Md_ask_91 : decode b_Md_ask 91 = .ok (.iastore, 1) := by decide +kernel
theorem d_Md_ask_92 : decode b_Md_ask 92 = .ok (.aload_n 0, 1) := by decide +kernel
theorem d_Md_ask_93 : decode b_Md_ask 93 = .ok (.getfield 16, 3) := by decide +kernel
theorem d_Md_ask_96 : decode b_Md_ask 96 = .ok (.aload_n 0, 1) := by decide +kernel
theorem d_Md_ask_97 : decode b_Md_ask 97 = .ok (.getfield 129, 3) := by decide +kernel
theorem d_Md_ask_100 : decode b_Md_ask 100 = .ok (.iload_n 3, 1) := by decide +kernel
theorem d_Md_ask_101 : decode b_Md_ask 101 = .ok (.iastore, 1) := by decide +kernel
theorem d_Md_ask_102 : decode b_Md_ask 102 = .ok (.aload_n 0, 1) := by decide +kernel
theorem d_Md_ask_103 : decode b_Md_ask 103 = .ok (.getfield 129, 3) := by decide +kernel
theorem d_Md_ask_106 : decode b_Md_ask 106 = .ok (.ireturn, 1) := by decide +kernel
theorem d_Md_route_0 : decode b_Md_route 0 = .ok (.iload_n 1, 1) := by decide +kernel
theorem d_Md_route_1 : decode b_Md_route 1 = .ok (.iconst 1, 1) := by decide +kernel
theorem d_Md_route_2 : decode b_Md_route 2 = .ok (.if_icmp .lt 18, 3) := by decide +kernel
theorem d_Md_route_5 : decode b_Md_route 5 = .ok (.iload_n 1, 1) := by decide +kernel
theorem d_Md_route_6 : decode b_Md_route 6 = .ok (.aload_n 0, 1) := by decide +kernel
theorem d_Md_route_7 : decode b_Md_route 7 = .ok (.getfield 129, 3) := by decide +kernel
theorem d_Md_route_10 : decode b_Md_route 10 = .ok (.if_icmp .gt 10, 3) := by decide +kernel
theorem d_Md_route_13 : decode b_Md_route 13 = .ok (.iload_n 2, 1) := by decide +kernel
theorem d_Md_route_14 : decode b_Md_route 14 = .ok (.invokestatic 117, 3) := by decide +kernel
theorem d_Md_route_17 : decode b_Md_route 17 = .ok (.ifCond .ne 5, 3) := by decide +kernel
theorem d_Md_route_20 : decode b_Md_route 20 = .ok (.iconst (-1), 1) := by decide +kernel
theorem d_Md_route_21 : decode b_Md_route 21 = .ok (.ireturn, 1) := by decide +kernel
theorem d_Md_route_22 : decode b_Md_route 22 = .ok (.aload_n 0, 1) := by decide +kernel
theorem d_Md_route_23 : decode b_Md_route 23 = .ok (.iload_n 2, 1) := by decide +kernel
theorem d_Md_route_24 : decode b_Md_route 24 = .ok (.invokevirtual 132, 3) := by decide +kernel
theorem d_Md_route_27 : decode b_Md_route 27 = .ok (.ifCond .ne 5, 3) := by decide +kernel
theorem d_Md_route_30 : decode b_Md_route 30 = .ok (.iconst 0, 1) := by decide +kernel
theorem d_Md_route_31 : decode b_Md_route 31 = .ok (.ireturn, 1) := by decide +kernel
theorem d_Md_route_32 : decode b_Md_route 32 = .ok (.aload_n 0, 1) := by decide +kernel
theorem d_Md_route_33 : decode b_Md_route 33 = .ok (.getfield 32, 3) := by decide +kernel
theorem d_Md_route_36 : decode b_Md_route 36 = .ok (.iload_n 2, 1) := by decide +kernel
theorem d_Md_route_37 : decode b_Md_route 37 = .ok (.iaload, 1) := by decide +kernel
theorem d_Md_route_38 : decode b_Md_route 38 = .ok (.aload_n 0, 1) := by decide +kernel
theorem d_Md_route_39 : decode b_Md_route 39 = .ok (.getfield 135, 3) := by decide +kernel
theorem d_Md_route_42 : decode b_Md_route 42 = .ok (.if_icmp .ge 5, 3) := by decide +kernel
theorem d_Md_route_45 : decode b_Md_route 45 = .ok (.iconst 4, 1) := by decide +kernel
theorem d_Md_route_46 : decode b_Md_route 46 = .ok (.ireturn, 1) := by decide +kernel
theorem d_Md_route_47 : decode b_Md_route 47 = .ok (.aload_n 0, 1) := by decide +kernel
theorem d_Md_route_48 : decode b_Md_route 48 = .ok (.getfield 32, 3) := by decide +kernel
theorem d_Md_route_51 : decode b_Md_route 51 = .ok (.iload_n 2, 1) := by decide +kernel
theorem d_Md_route_52 : decode b_Md_route 52 = .ok (.iaload, 1) := by decide +kernel
theorem d_Md_route_53 : decode b_Md_route 53 = .ok (.aload_n 0, 1) := by decide +kernel
theorem d_Md_route_54 : decode b_Md_route 54 = .ok (.getfield 135, 3) := by decide +kernel
theorem d_Md_route_57 : decode b_Md_route 57 = .ok (.if_icmp .le 15, 3) := by decide +kernel
theorem d_Md_route_60 : decode b_Md_route 60 = .ok (.aload_n 0, 1) := by decide +kernel
theorem d_Md_route_61 : decode b_Md_route 61 = .ok (.aload_n 0, 1) := by decide +kernel
theorem d_Md_route_62 : decode b_Md_route 62 = .ok (.getfield 32, 3) := by decide +kernel
theorem d_Md_route_65 : decode b_Md_route 65 = .ok (.iload_n 2, 1) := by decide +kernel
theorem d_Md_route_66 : decode b_Md_route 66 = .ok (.iaload, 1) := by decide +kernel
theorem d_Md_route_67 : decode b_Md_route 67 = .ok (.putfield 135, 3) := by decide +kernel
theorem d_Md_route_70 : decode b_Md_route 70 = .ok (.iconst 5, 1) := by decide +kernel
theorem d_Md_route_71 : decode b_Md_route 71 = .ok (.ireturn, 1) := by decide +kernel
theorem d_Md_route_72 : decode b_Md_route 72 = .ok (.aload_n 0, 1) := by decide +kernel
theorem d_Md_route_73 : decode b_Md_route 73 = .ok (.iload_n 2, 1) := by decide +kernel
theorem d_Md_route_74 : decode b_Md_route 74 = .ok (.invokevirtual 107, 3) := by decide +kernel
theorem d_Md_route_77 : decode b_Md_route 77 = .ok (.aload_n 0, 1) := by decide +kernel
theorem d_Md_route_78 : decode b_Md_route 78 = .ok (.getfield 83, 3) := by decide +kernel
theorem d_Md_route_81 : decode b_Md_route 81 = .ok (.iload_n 1, 1) := by decide +kernel
theorem d_Md_route_82 : decode b_Md_route 82 = .ok (.baload, 1) := by decide +kernel
theorem d_Md_route_83 : decode b_Md_route 83 = .ok (.ifCond .eq 10, 3) := by decide +kernel
theorem d_Md_route_86 : decode b_Md_route 86 = .ok (.aload_n 0, 1) := by decide +kernel
theorem d_Md_route_87 : decode b_Md_route 87 = .ok (.iload_n 1, 1) := by decide +kernel
theorem d_Md_route_88 : decode b_Md_route 88 = .ok (.invokevirtual 138, 3) := by decide +kernel
theorem d_Md_route_91 : decode b_Md_route 91 = .ok (.iconst 1, 1) := by decide +kernel
theorem d_Md_route_92 : decode b_Md_route 92 = .ok (.ireturn, 1) := by decide +kernel
theorem d_Md_route_93 : decode b_Md_route 93 = .ok (.aload_n 0, 1) := by decide +kernel
theorem d_Md_route_94 : decode b_Md_route 94 = .ok (.getfield 96, 3) := by decide +kernel
theorem d_Md_route_97 : decode b_Md_route 97 = .ok (.iload_n 2, 1) := by decide +kernel
theorem d_Md_route_98 : decode b_Md_route 98 = .ok (.ishr, 1) := by decide +kernel
theorem d_Md_route_99 : decode b_Md_route 99 = .ok (.iconst 1, 1) := by decide +kernel
theorem d_Md_route_100 : decode b_Md_route 100 = .ok (.iand, 1) := by decide +kernel
theorem d_Md_route_101 : decode b_Md_route 101 = .ok (.ifCond .ne 5, 3) := by decide +kernel
theorem d_Md_route_104 : decode b_Md_route 104 = .ok (.iconst 3, 1) := by decide +kernel
theorem d_Md_route_105 : decode b_Md_route 105 = .ok (.ireturn, 1) := by decide +kernel
theorem d_Md_route_106 : decode b_Md_route 106 = .ok (.aload_n 0, 1) := by decide +kernel
theorem d_Md_route_107 : decode b_Md_route 107 = .ok (.getfield 47, 3) := by decide +kernel
theorem d_Md_route_110 : decode b_Md_route 110 = .ok (.iload_n 2, 1) := by decide +kernel
theorem d_Md_route_111 : decode b_Md_route 111 = .ok (.iload_n 1, 1) := by decide +kernel
theorem d_Md_route_112 : decode b_Md_route 112 = .ok (.iastore, 1) := by decide +kernel
theorem d_Md_route_113 : decode b_Md_route 113 = .ok (.iconst 2, 1) := by decide +kernel
theorem d_Md_route_114 : decode b_Md_route 114 = .ok (.ireturn, 1) := by decide +kernel
theorem d_Md_router_0 : decode b_Md_router 0 = .ok (.aload_n 0, 1) := by decide +kernel
theorem d_Md_router_1 : decode b_Md_router 1 = .ok (.getfield 135, 3) := by decide +kernel
theorem d_Md_router_4 : decode b_Md_router 4 = .ok (.ireturn, 1) := by decide +kernel
theorem d_Md_start_0 : decode b_Md_start 0 = .ok (.iload_n 1, 1) := by decide +kernel
theorem d_Md_start_1 : decode b_Md_start 1 = .ok (.invokestatic 117, 3) := by decide +kernel
theorem d_Md_start_4 : decode b_Md_start 4 = .ok (.ifCond .ne 5, 3) := by decide +kernel
theorem d_Md_start_7 : decode b_Md_start 7 = .ok (.iconst (-1), 1) := by decide +kernel
theorem d_Md_start_8 : decode b_Md_start 8 = .ok (.ireturn, 1) := by decide +kernel
theorem d_Md_start_9 : decode b_Md_start 9 = .ok (.aload_n 0, 1) := by decide +kernel
theorem d_Md_start_10 : decode b_Md_start 10 = .ok (.getfield 35, 3) := by decide +kernel
theorem d_Md_start_13 : decode b_Md_start 13 = .ok (.iload_n 1, 1) := by decide +kernel
theorem d_Md_start_14 : decode b_Md_start 14 = .ok (.iaload, 1) := by decide +kernel
theorem d_Md_start_15 : decode b_Md_start 15 = .ok (.istore_n 3, 1) := by decide +kernel
theorem d_Md_start_16 : decode b_Md_start 16 = .ok (.aload_n 0, 1) := by decide +kernel
theorem d_Md_start_17 : decode b_Md_start 17 = .ok (.iload_n 1, 1) := by decide +kernel
theorem d_Md_start_18 : decode b_Md_start 18 = .ok (.invokevirtual 132, 3) := by decide +kernel
theorem d_Md_start_21 : decode b_Md_start 21 = .ok (.ifCond .eq 30, 3) := by decide +kernel
theorem d_Md_start_24 : decode b_Md_start 24 = .ok (.iload_n 2, 1) := by decide +kernel
theorem d_Md_start_25 : decode b_Md_start 25 = .ok (.iload_n 3, 1) := by decide +kernel
theorem d_Md_start_26 : decode b_Md_start 26 = .ok (.if_icmp .le 25, 3) := by decide +kernel
theorem d_Md_start_29 : decode b_Md_start 29 = .ok (.iload_n 2, 1) := by decide +kernel
theorem d_Md_start_30 : decode b_Md_start 30 = .ok (.iload_n 3, 1) := by decide +kernel
theorem d_Md_start_31 : decode b_Md_start 31 = .ok (.iconst 2, 1) := by decide +kernel
theorem d_Md_start_32 : decode b_Md_start 32 = .ok (.iadd, 1) := by decide +kernel
theorem d_Md_start_33 : decode b_Md_start 33 = .ok (.if_icmp .gt 18, 3) := by decide +kernel
theorem d_Md_start_36 : decode b_Md_start 36 = .ok (.iload_n 2, 1) := by decide +kernel
theorem d_Md_start_37 : decode b_Md_start 37 = .ok (.bipush 8, 2) := by decide +kernel
theorem d_Md_start_39 : decode b_Md_start 39 = .ok (.if_icmp .gt 12, 3) := by decide +kernel
theorem d_Md_start_42 : decode b_Md_start 42 = .ok (.aload_n 0, 1) := by decide +kernel
theorem d_Md_start_43 : decode b_Md_start 43 = .ok (.iload_n 1, 1) := by decide +kernel
theorem d_Md_start_44 : decode b_Md_start 44 = .ok (.iload_n 2, 1) := by decide +kernel
theorem d_Md_start_45 : decode b_Md_start 45 = .ok (.invokevirtual 121, 3) := by decide +kernel
theorem d_Md_start_48 : decode b_Md_start 48 = .ok (.ifCond .eq 5, 3) := by decide +kernel
theorem d_Md_start_51 : decode b_Md_start 51 = .ok (.iconst 0, 1) := by decide +kernel
theorem d_Md_start_52 : decode b_Md_start 52 = .ok (.ireturn, 1) := by decide +kernel
theorem d_Md_start_53 : decode b_Md_start 53 = .ok (.bipush 6, 2) := by decide +kernel
theorem d_Md_start_55 : decode b_Md_start 55 = .ok (.iload_n 1, 1) := by decide +kernel
theorem d_Md_start_56 : decode b_Md_start 56 = .ok (.iadd, 1) := by decide +kernel
theorem d_Md_start_57 : decode b_Md_start 57 = .ok (.istore 4, 2) := by decide +kernel
theorem d_Md_start_59 : decode b_Md_start 59 = .ok (.iconst 0, 1) := by decide +kernel
theorem d_Md_start_60 : decode b_Md_start 60 = .ok (.istore 5, 2) := by decide +kernel
theorem d_Md_start_62 : decode b_Md_start 62 = .ok (.iload 5, 2) := by decide +kernel
theorem d_Md_start_64 : decode b_Md_start 64 = .ok (.ldc 141, 2) := by decide +kernel
theorem d_Md_start_66 : decode b_Md_start 66 = .ok (.if_icmp .ge 23, 3) := by decide +kernel
theorem d_Md_start_69 : decode b_Md_start 69 = .ok (.iload 4, 2) := by decide +kernel
theorem d_Md_start_71 : decode b_Md_start 71 = .ok (.aload_n 0, 1) := by decide +kernel
theorem d_Md_start_72 : decode b_Md_start 72 = .ok (.getfield 41, 3) := by decide +kernel
theorem d_Md_start_75 : decode b_Md_start 75 = .ok (.iload_n 1, 1) := by decide +kernel
theorem d_Md_start_76 : decode b_Md_start 76 = .ok (.iaload, 1) := by decide +kernel
theorem d_Md_start_77 : decode b_Md_start 77 = .ok (.if_icmp .gt 12, 3) := by decide +kernel
theorem d_Md_start_80 : decode b_Md_start 80 = .ok (.iinc 4 6, 3) := by decide +kernel
theorem d_Md_start_83 : decode b_Md_start 83 = .ok (.iinc 5 1, 3) := by decide +kernel
theorem d_Md_start_86 : decode b_Md_start 86 = .ok (.goto (-24), 3) := by decide +kernel
theorem d_Md_start_89 : decode b_Md_start 89 = .ok (.aload_n 0, 1) := by decide +kernel
theorem d_Md_start_90 : decode b_Md_start 90 = .ok (.getfield 41, 3) := by decide +kernel
theorem d_Md_start_93 : decode b_Md_start 93 = .ok (.iload_n 1, 1) := by decide +kernel
theorem d_Md_start_94 : decode b_Md_start 94 = .ok (.iload 4, 2) := by decide +kernel
theorem d_Md_start_96 : decode b_Md_start 96 = .ok (.iastore, 1) := by decide +kernel
theorem d_Md_start_97 : decode b_Md_start 97 = .ok (.aload_n 0, 1) := by decide +kernel
theorem d_Md_start_98 : decode b_Md_start 98 = .ok (.getfield 59, 3) := by decide +kernel
theorem d_Md_start_101 : decode b_Md_start 101 = .ok (.iload_n 1, 1) := by decide +kernel
theorem d_Md_start_102 : decode b_Md_start 102 = .ok (.iload_n 2, 1) := by decide +kernel
theorem d_Md_start_103 : decode b_Md_start 103 = .ok (.iastore, 1) := by decide +kernel
theorem d_Md_start_104 : decode b_Md_start 104 = .ok (.aload_n 0, 1) := by decide +kernel
theorem d_Md_start_105 : decode b_Md_start 105 = .ok (.getfield 62, 3) := by decide +kernel
theorem d_Md_start_108 : decode b_Md_start 108 = .ok (.iload_n 1, 1) := by decide +kernel
theorem d_Md_start_109 : decode b_Md_start 109 = .ok (.iload 4, 2) := by decide +kernel
theorem d_Md_start_111 : decode b_Md_start 111 = .ok (.iastore, 1) := by decide +kernel
theorem d_Md_start_112 : decode b_Md_start 112 = .ok (.aload_n 0, 1) := by decide +kernel
theorem d_Md_start_113 : decode b_Md_start 113 = .ok (.getfield 65, 3) := by decide +kernel
theorem d_Md_start_116 : decode b_Md_start 116 = .ok (.iload_n 1, 1) := by decide +kernel
theorem d_Md_start_117 : decode b_Md_start 117 = .ok (.iconst 0, 1) := by decide +kernel
theorem d_Md_start_118 : decode b_Md_start 118 = .ok (.iastore, 1) := by decide +kernel
theorem d_Md_start_119 : decode b_Md_start 119 = .ok (.aload_n 0, 1) := by decide +kernel
theorem d_Md_start_120 : decode b_Md_start 120 = .ok (.getfield 68, 3) := by decide +kernel
theorem d_Md_start_123 : decode b_Md_start 123 = .ok (.iload_n 1, 1) := by decide +kernel
theorem d_Md_start_124 : decode b_Md_start 124 = .ok (.iconst 0, 1) := by decide +kernel
theorem d_Md_start_125 : decode b_Md_start 125 = .ok (.iastore, 1) := by decide +kernel
theorem d_Md_start_126 : decode b_Md_start 126 = .ok (.aload_n 0, 1) := by decide +kernel
theorem d_Md_start_127 : decode b_Md_start 127 = .ok (.getfield 71, 3) := by decide +kernel
theorem d_Md_start_130 : decode b_Md_start 130 = .ok (.iload_n 1, 1) := by decide +kernel
theorem d_Md_start_131 : decode b_Md_start 131 = .ok (.iconst 0, 1) := by decide +kernel
theorem d_Md_start_132 : decode b_Md_start 132 = .ok (.iastore, 1) := by decide +kernel
theorem d_Md_start_133 : decode b_Md_start 133 = .ok (.aload_n 0, 1) := by decide +kernel
theorem d_Md_start_134 : decode b_Md_start 134 = .ok (.getfield 74, 3) := by decide +kernel
theorem d_Md_start_137 : decode b_Md_start 137 = .ok (.iload_n 1, 1) := by decide +kernel
theorem d_Md_start_138 : decode b_Md_start 138 = .ok (.iconst 0, 1) := by decide +kernel
theorem d_Md_start_139 : decode b_Md_start 139 = .ok (.iastore, 1) := by decide +kernel
theorem d_Md_start_140 : decode b_Md_start 140 = .ok (.aload_n 0, 1) := by decide +kernel
theorem d_Md_start_141 : decode b_Md_start 141 = .ok (.getfield 77, 3) := by decide +kernel
theorem d_Md_start_144 : decode b_Md_start 144 = .ok (.iload_n 1, 1) := by decide +kernel
theorem d_Md_start_145 : decode b_Md_start 145 = .ok (.iconst (-1), 1) := by decide +kernel
theorem d_Md_start_146 : decode b_Md_start 146 = .ok (.iastore, 1) := by decide +kernel
theorem d_Md_start_147 : decode b_Md_start 147 = .ok (.iload 4, 2) := by decide +kernel
theorem d_Md_start_149 : decode b_Md_start 149 = .ok (.ireturn, 1) := by decide +kernel
theorem d_Md_barred_0 : decode b_Md_barred 0 = .ok (.iload_n 1, 1) := by decide +kernel
theorem d_Md_barred_1 : decode b_Md_barred 1 = .ok (.invokestatic 117, 3) := by decide +kernel
theorem d_Md_barred_4 : decode b_Md_barred 4 = .ok (.ifCond .eq 10, 3) := by decide +kernel
theorem d_Md_barred_7 : decode b_Md_barred 7 = .ok (.iload_n 2, 1) := by decide +kernel
theorem d_Md_barred_8 : decode b_Md_barred 8 = .ok (.invokestatic 117, 3) := by decide +kernel
theorem d_Md_barred_11 : decode b_Md_barred 11 = .ok (.ifCond .ne 5, 3) := by decide +kernel
theorem d_Md_barred_14 : decode b_Md_barred 14 = .ok (.iconst (-1), 1) := by decide +kernel
theorem d_Md_barred_15 : decode b_Md_barred 15 = .ok (.ireturn, 1) := by decide +kernel
theorem d_Md_barred_16 : decode b_Md_barred 16 = .ok (.aload_n 0, 1) := by decide +kernel
theorem d_Md_barred_17 : decode b_Md_barred 17 = .ok (.iload_n 1, 1) := by decide +kernel
theorem d_Md_barred_18 : decode b_Md_barred 18 = .ok (.invokevirtual 132, 3) := by decide +kernel
theorem d_Md_barred_21 : decode b_Md_barred 21 = .ok (.ifCond .eq 24, 3) := by decide +kernel
theorem d_Md_barred_24 : decode b_Md_barred 24 = .ok (.aload_n 0, 1) := by decide +kernel
theorem d_Md_barred_25 : decode b_Md_barred 25 = .ok (.getfield 59, 3) := by decide +kernel
theorem d_Md_barred_28 : decode b_Md_barred 28 = .ok (.iload_n 1, 1) := by decide +kernel
theorem d_Md_barred_29 : decode b_Md_barred 29 = .ok (.iaload, 1) := by decide +kernel
theorem d_Md_barred_30 : decode b_Md_barred 30 = .ok (.ifCond .eq 15, 3) := by decide +kernel
theorem d_Md_barred_33 : decode b_Md_barred 33 = .ok (.aload_n 0, 1) := by decide +kernel
theorem d_Md_barred_34 : decode b_Md_barred 34 = .ok (.iload_n 1, 1) := by decide +kernel
theorem d_Md_barred_35 : decode b_Md_barred 35 = .ok (.invokevirtual 110, 3) := by decide +kernel
theorem d_Md_barred_38 : decode b_Md_barred 38 = .ok (.iload_n 2, 1) := by decide +kernel
theorem d_Md_barred_39 : decode b_Md_barred 39 = .ok (.ishr, 1) := by decide +kernel
theorem d_Md_barred_40 : decode b_Md_barred 40 = .ok (.iconst 1, 1) := by decide +kernel
theorem d_Md_barred_41 : decode b_Md_barred 41 = .ok (.iand, 1) := by decide +kernel
theorem d_Md_barred_42 : decode b_Md_barred 42 = .ok (.ifCond .ne 5, 3) := by decide +kernel
theorem d_Md_barred_45 : decode b_Md_barred 45 = .ok (.iconst 0, 1) := by decide +kernel
theorem d_Md_barred_46 : decode b_Md_barred 46 = .ok (.ireturn, 1) := by decide +kernel
theorem d_Md_barred_47 : decode b_Md_barred 47 = .ok (.iload_n 3, 1) := by decide +kernel
theorem d_Md_barred_48 : decode b_Md_barred 48 = .ok (.ifCond .eq 19, 3) := by decide +kernel
theorem d_Md_barred_51 : decode b_Md_barred 51 = .ok (.aload_n 0, 1) := by decide +kernel
theorem d_Md_barred_52 : decode b_Md_barred 52 = .ok (.aload_n 0, 1) := by decide +kernel
theorem d_Md_barred_53 : decode b_Md_barred 53 = .ok (.getfield 65, 3) := by decide +kernel
theorem d_Md_barred_56 : decode b_Md_barred 56 = .ok (.iload_n 1, 1) := by decide +kernel
theorem d_Md_barred_57 : decode b_Md_barred 57 = .ok (.iaload, 1) := by decide +kernel
theorem d_Md_barred_58 : decode b_Md_barred 58 = .ok (.iload_n 1, 1) := by decide +kernel
theorem d_Md_barred_59 : decode b_Md_barred 59 = .ok (.invokevirtual 142, 3) := by decide +kernel
theorem d_Md_barred_62 : decode b_Md_barred 62 = .ok (.ifCond .ne 5, 3) := by decide +kernel
theorem d_Md_barred_65 : decode b_Md_barred 65 = .ok (.iconst 0, 1) := by decide +kernel
theorem d_Md_barred_66 : decode b_Md_barred 66 = .ok (.ireturn, 1) := by decide +kernel
theorem d_Md_barred_67 : decode b_Md_barred 67 = .ok (.aload_n 0, 1) := by decide +kernel
theorem d_Md_barred_68 : decode b_Md_barred 68 = .ok (.iload_n 2, 1) := by decide +kernel
theorem d_Md_barred_69 : decode b_Md_barred 69 = .ok (.invokevirtual 132, 3) := by decide +kernel
theorem d_Md_barred_72 : decode b_Md_barred 72 = .ok (.ifCond .eq 7, 3) := by decide +kernel
theorem d_Md_barred_75 : decode b_Md_barred 75 = .ok (.iconst 1, 1) := by decide +kernel
theorem d_Md_barred_76 : decode b_Md_barred 76 = .ok (.goto 5, 3) := by decide +kernel
theorem d_Md_barred_79 : decode b_Md_barred 79 = .ok (.bipush (-2), 2) := by decide +kernel
theorem d_Md_barred_81 : decode b_Md_barred 81 = .ok (.ireturn, 1) := by decide +kernel
theorem d_Md_answer_0 : decode b_Md_answer 0 = .ok (.bipush 45, 2) := by decide +kernel
theorem d_Md_answer_2 : decode b_Md_answer 2 = .ok (.iload_n 2, 1) := by decide +kernel
theorem d_Md_answer_3 : decode b_Md_answer 3 = .ok (.imul, 1) := by decide +kernel
theorem d_Md_answer_4 : decode b_Md_answer 4 = .ok (.bipush 9, 2) := by decide +kernel
theorem d_Md_answer_6 : decode b_Md_answer 6 = .ok (.aload_n 0, 1) := by decide +kernel
theorem d_Md_answer_7 : decode b_Md_answer 7 = .ok (.getfield 32, 3) := by decide +kernel
theorem d_Md_answer_10 : decode b_Md_answer 10 = .ok (.iload_n 1, 1) := by decide +kernel
theorem d_Md_answer_11 : decode b_Md_answer 11 = .ok (.iaload, 1) := by decide +kernel
theorem d_Md_answer_12 : decode b_Md_answer 12 = .ok (.imul, 1) := by decide +kernel
theorem d_Md_answer_13 : decode b_Md_answer 13 = .ok (.iadd, 1) := by decide +kernel
theorem d_Md_answer_14 : decode b_Md_answer 14 = .ok (.aload_n 0, 1) := by decide +kernel
theorem d_Md_answer_15 : decode b_Md_answer 15 = .ok (.getfield 59, 3) := by decide +kernel
theorem d_Md_answer_18 : decode b_Md_answer 18 = .ok (.iload_n 1, 1) := by decide +kernel
theorem d_Md_answer_19 : decode b_Md_answer 19 = .ok (.iaload, 1) := by decide +kernel
theorem d_Md_answer_20 : decode b_Md_answer 20 = .ok (.iadd, 1) := by decide +kernel
theorem d_Md_answer_21 : decode b_Md_answer 21 = .ok (.istore 4, 2) := by decide +kernel
theorem d_Md_answer_23 : decode b_Md_answer 23 = .ok (.aload_n 0, 1) := by decide +kernel
theorem d_Md_answer_24 : decode b_Md_answer 24 = .ok (.getfield 44, 3) := by decide +kernel
theorem d_Md_answer_27 : decode b_Md_answer 27 = .ok (.iload_n 2, 1) := by decide +kernel
theorem d_Md_answer_28 : decode b_Md_answer 28 = .ok (.iaload, 1) := by decide +kernel
theorem d_Md_answer_29 : decode b_Md_answer 29 = .ok (.aload_n 0, 1) := by decide +kernel
theorem d_Md_answer_30 : decode b_Md_answer 30 = .ok (.getfield 32, 3) := by decide +kernel
theorem d_Md_answer_33 : decode b_Md_answer 33 = .ok (.iload_n 1, 1) := by decide +kernel
theorem d_Md_answer_34 : decode b_Md_answer 34 = .ok (.iaload, 1) := by decide +kernel
theorem d_Md_answer_35 : decode b_Md_answer 35 = .ok (.if_icmp .le 15, 3) := by decide +kernel
theorem d_Md_answer_38 : decode b_Md_answer 38 = .ok (.iload_n 3, 1) := by decide +kernel
theorem d_Md_answer_39 : decode b_Md_answer 39 = .ok (.ifCond .eq 9, 3) := by decide +kernel
theorem d_Md_answer_42 : decode b_Md_answer 42 = .ok (.aload_n 0, 1) := by decide +kernel
theorem d_Md_answer_43 : decode b_Md_answer 43 = .ok (.iload_n 1, 1) := by decide +kernel
theorem d_Md_answer_44 : decode b_Md_answer 44 = .ok (.iload_n 2, 1) := by decide +kernel
theorem d_Md_answer_45 : decode b_Md_answer 45 = .ok (.invokevirtual 145, 3) := by decide +kernel
theorem d_Md_answer_48 : decode b_Md_answer 48 = .ok (.iconst 3, 1) := by decide +kernel
theorem d_Md_answer_49 : decode b_Md_answer 49 = .ok (.ireturn, 1) := by decide +kernel
theorem d_Md_answer_50 : decode b_Md_answer 50 = .ok (.aload_n 0, 1) := by decide +kernel
theorem d_Md_answer_51 : decode b_Md_answer 51 = .ok (.getfield 62, 3) := by decide +kernel
theorem d_Md_answer_54 : decode b_Md_answer 54 = .ok (.iload_n 1, 1) := by decide +kernel
theorem d_Md_answer_55 : decode b_Md_answer 55 = .ok (.iaload, 1) := by decide +kernel
theorem d_Md_answer_56 : decode b_Md_answer 56 = .ok (.aload_n 0, 1) := by decide +kernel
theorem d_Md_answer_57 : decode b_Md_answer 57 = .ok (.getfield 50, 3) := by decide +kernel
theorem d_Md_answer_60 : decode b_Md_answer 60 = .ok (.iload 4, 2) := by decide +kernel
theorem d_Md_answer_62 : decode b_Md_answer 62 = .ok (.iaload, 1) := by decide +kernel
theorem d_Md_answer_63 : decode b_Md_answer 63 = .ok (.if_icmp .ge 38, 3) := by decide +kernel
theorem d_Md_answer_66 : decode b_Md_answer 66 = .ok (.iload_n 3, 1) := by decide +kernel
theorem d_Md_answer_67 : decode b_Md_answer 67 = .ok (.ifCond .eq 32, 3) := by decide +kernel
theorem d_Md_answer_70 : decode b_Md_answer 70 = .ok (.aload_n 0, 1) := by decide +kernel
theorem d_Md_answer_71 : decode b_Md_answer 71 = .ok (.getfield 50, 3) := by decide +kernel
theorem d_Md_answer_74 : decode b_Md_answer 74 = .ok (.iload 4, 2) := by decide +kernel
theorem d_Md_answer_76 : decode b_Md_answer 76 = .ok (.iaload, 1) := by decide +kernel
theorem d_Md_answer_77 : decode b_Md_answer 77 = .ok (.aload_n 0, 1) := by decide +kernel
theorem d_Md_answer_78 : decode b_Md_answer 78 = .ok (.getfield 41, 3) := by decide +kernel
theorem d_Md_answer_81 : decode b_Md_answer 81 = .ok (.iload_n 1, 1) := by decide +kernel
theorem d_Md_answer_82 : decode b_Md_answer 82 = .ok (.iaload, 1) := by decide +kernel
theorem d_Md_answer_83 : decode b_Md_answer 83 = .ok (.if_icmp .le 16, 3) := by decide +kernel
theorem d_Md_answer_86 : decode b_Md_answer 86 = .ok (.aload_n 0, 1) := by decide +kernel
theorem d_Md_answer_87 : decode b_Md_answer 87 = .ok (.getfield 41, 3) := by decide +kernel
theorem d_Md_answer_90 : decode b_Md_answer 90 = .ok (.iload_n 1, 1) := by decide +kernel
theorem d_Md_answer_91 : decode b_Md_answer 91 = .ok (.aload_n 0, 1) := by decide +kernel
theorem d_Md_answer_92 : decode b_Md_answer 92 = .ok (.getfield 50, 3) := by decide +kernel
theorem d_Md_answer_95 : decode b_Md_answer 95 = .ok (.iload 4, 2) := by decide +kernel
theorem d_Md_answer_97 : decode b_Md_answer 97 = .ok (.iaload, 1) := by decide +kernel
theorem d_Md_answer_98 : decode b_Md_answer 98 = .ok (.iastore, 1) := by decide +kernel
theorem d_Md_answer_99 : decode b_Md_answer 99 = .ok (.iconst 2, 1) := by decide +kernel
theorem d_Md_answer_100 : decode b_Md_answer 100 = .ok (.ireturn, 1) := by decide +kernel
theorem d_Md_answer_101 : decode b_Md_answer 101 = .ok (.aload_n 0, 1) := by decide +kernel
theorem d_Md_answer_102 : decode b_Md_answer 102 = .ok (.getfield 50, 3) := by decide +kernel
theorem d_Md_answer_105 : decode b_Md_answer 105 = .ok (.iload 4, 2) := by decide +kernel
theorem d_Md_answer_107 : decode b_Md_answer 107 = .ok (.aload_n 0, 1) := by decide +kernel
theorem d_Md_answer_108 : decode b_Md_answer 108 = .ok (.getfield 62, 3) := by decide +kernel
theorem d_Md_answer_111 : decode b_Md_answer 111 = .ok (.iload_n 1, 1) := by decide +kernel
theorem d_Md_answer_112 : decode b_Md_answer 112 = .ok (.iaload, 1) := by decide +kernel
theorem d_Md_answer_113 : decode b_Md_answer 113 = .ok (.iastore, 1) := by decide +kernel
theorem d_Md_answer_114 : decode b_Md_answer 114 = .ok (.iconst 1, 1) := by decide +kernel
theorem d_Md_answer_115 : decode b_Md_answer 115 = .ok (.ireturn, 1) := by decide +kernel
def wp_Md_ask (z1 : MmdT) (x1 : Int32) (x2 : Int32) (x3 : Int32) (post : Int32 → MmdT → Prop) : Prop := ((x1 < (0 : Int32) → (post (-1 : Int32) z1)) ∧ (¬ x1 < (0 : Int32) → (((3 : Int32) < x1 → (post (-1 : Int32) z1)) ∧ (¬ (3 : Int32) < x1 → ((x2 < (0 : Int32) → (post (-1 : Int32) z1)) ∧ (¬ x2 < (0 : Int32) → (((3 : Int32) < x2 → (post (-1 : Int32) z1)) ∧ (¬ (3 : Int32) < x2 → (((mmd_requests z1) = (30 : Int32) → (post (-1 : Int32) z1)) ∧ (¬ (mmd_requests z1) = (30 : Int32) → ((x1 = (3 : Int32) → ((x3 < (0 : Int32) → (post (-1 : Int32) z1)) ∧ (¬ x3 < (0 : Int32) → (((63 : Int32) < x3 → (post (-1 : Int32) z1)) ∧ (¬ (63 : Int32) < x3 → (wp_Md_count x3 (fun (r13 : Int32) => ((r13 < (3 : Int32) → (post (-1 : Int32) z1)) ∧ (¬ r13 < (3 : Int32) → (wp_Md_count x3 (fun (r15 : Int32) => ((r15 ≤ (5 : Int32) → (∀ w17 : MmdT, w17 = mmd_s_requests z1 ((mmd_requests z1) + (1 : Int32)) → (vp_in (mmd_requests w17) 31 ∧ (∀ w18 : MmdT, w18 = mmd_s_kindOf w17 (upd (mmd_kindOf w17) ((mmd_requests w17)).toNatClampNeg x1) → (vp_in (mmd_requests w18) 31 ∧ (∀ w19 : MmdT, w19 = mmd_s_keyOf w18 (upd (mmd_keyOf w18) ((mmd_requests w18)).toNatClampNeg x2) → (vp_in (mmd_requests w19) 31 ∧ (∀ w20 : MmdT, w20 = mmd_s_numberOf w19 (upd (mmd_numberOf w19) ((mmd_requests w19)).toNatClampNeg x3) → (post (mmd_requests w20) w20))))))))) ∧ (¬ r15 ≤ (5 : Int32) → (post (-1 : Int32) z1)))))))))))))) ∧ (¬ x1 = (3 : Int32) → (∀ w7 : MmdT, w7 = mmd_s_requests z1 ((mmd_requests z1) + (1 : Int32)) → (vp_in (mmd_requests w7) 31 ∧ (∀ w8 : MmdT, w8 = mmd_s_kindOf w7 (upd (mmd_kindOf w7) ((mmd_requests w7)).toNatClampNeg x1) → (vp_in (mmd_requests w8) 31 ∧ (∀ w9 : MmdT, w9 = mmd_s_keyOf w8 (upd (mmd_keyOf w8) ((mmd_requests w8)).toNatClampNeg x2) → (vp_in (mmd_requests w9) 31 ∧ (∀ w10 : MmdT, w10 = mmd_s_numberOf w9 (upd (mmd_numberOf w9) ((mmd_requests w9)).toNatClampNeg x3) → (post (mmd_requests w10) w10))))))))))))))))))))
abbrev rm_Md_ask : Room := { frames := 1, cells := 0, slots := 0, locals := 22 }
def wp_Md_route (z1 : MmdT) (x1 : Int32) (x2 : Int32) (post : Int32 → MmdT → Prop) : Prop := ((x1 < (1 : Int32) → (post (-1 : Int32) z1)) ∧ (¬ x1 < (1 : Int32) → (((mmd_requests z1) < x1 → (post (-1 : Int32) z1)) ∧ (¬ (mmd_requests z1) < x1 → (wp_Md_node x2 (fun (r3 : Int32) => ((r3 = (0 : Int32) → (post (-1 : Int32) z1)) ∧ (¬ r3 = (0 : Int32) → (wp_Md_isUp z1 x2 (fun (r5 : Int32) (u6 : MmdT) => ((r5 = (0 : Int32) → (post (0 : Int32) u6)) ∧ (¬ r5 = (0 : Int32) → (vp_in x2 6 ∧ (((mmd_router u6) ≤ ((mmd_configuration u6) (x2).toNatClampNeg) → (vp_in x2 6 ∧ ((((mmd_configuration u6) (x2).toNatClampNeg) ≤ (mmd_router u6) → (wp_Md_replayOf u6 x2 (fun (u11 : MmdT) => (vp_in x1 31 ∧ ((((mmd_done u11) (x1).toNatClampNeg) = (0 : Int32) → (((((mmd_members u11) >>> (x2 &&& 31)) &&& (1 : Int32)) = (0 : Int32) → (post (3 : Int32) u11)) ∧ (¬ (((mmd_members u11) >>> (x2 &&& 31)) &&& (1 : Int32)) = (0 : Int32) → (vp_in x2 6 ∧ (∀ w14 : MmdT, w14 = mmd_s_pending u11 (upd (mmd_pending u11) (x2).toNatClampNeg x1) → (post (2 : Int32) w14)))))) ∧ (¬ ((mmd_done u11) (x1).toNatClampNeg) = (0 : Int32) → (wp_Md_hear u11 x1 (fun (u16 : MmdT) => (post (1 : Int32) u16))))))))) ∧ (¬ ((mmd_configuration u6) (x2).toNatClampNeg) ≤ (mmd_router u6) → (vp_in x2 6 ∧ (∀ w17 : MmdT, w17 = mmd_s_router u6 ((mmd_configuration u6) (x2).toNatClampNeg) → (post (5 : Int32) w17))))))) ∧ (¬ (mmd_router u6) ≤ ((mmd_configuration u6) (x2).toNatClampNeg) → (post (4 : Int32) u6))))))))))))))))
abbrev rm_Md_route : Room := { frames := 3, cells := 0, slots := 0, locals := 68 }
def wp_Md_router (z1 : MmdT) (post : Int32 → MmdT → Prop) : Prop := (post (mmd_router z1) z1)
abbrev rm_Md_router : Room := { frames := 0, cells := 0, slots := 0, locals := 0 }
def wp_Md_start_L62 (K62 : Int32 → Int32 → Int32 → Int32 → MmdT → Prop) : Nat → Int32 → Int32 → Int32 → Int32 → MmdT → Prop
  | 0, _, _, _, _, _ => False
  | n62 + 1, y1, y2, y4, y5, z1 => (((100000 : Int32) ≤ y5 → K62 y1 y2 y4 y5 z1) ∧ (¬ (100000 : Int32) ≤ y5 → (vp_in y1 6 ∧ ((((mmd_last z1) (y1).toNatClampNeg) < y4 → K62 y1 y2 y4 y5 z1) ∧ (¬ ((mmd_last z1) (y1).toNatClampNeg) < y4 → (∀ v16 : Int32, v16 = (y4 + (6 : Int32)) → (∀ v17 : Int32, v17 = (y5 + (1 : Int32)) → wp_Md_start_L62 K62 n62 y1 y2 v16 v17 z1)))))))
def wp_Md_start (z1 : MmdT) (x1 : Int32) (x2 : Int32) (post : Int32 → MmdT → Prop) : Prop := (wp_Md_node x1 (fun (r1 : Int32) => ((r1 = (0 : Int32) → (post (-1 : Int32) z1)) ∧ (¬ r1 = (0 : Int32) → (vp_in x1 6 ∧ (∀ v3 : Int32, v3 = ((mmd_executed z1) (x1).toNatClampNeg) → (wp_Md_isUp z1 x1 (fun (r4 : Int32) (u5 : MmdT) => ((r4 = (0 : Int32) → (post (0 : Int32) u5)) ∧ (¬ r4 = (0 : Int32) → ((x2 ≤ v3 → (post (0 : Int32) u5)) ∧ (¬ x2 ≤ v3 → (((v3 + (2 : Int32)) < x2 → (post (0 : Int32) u5)) ∧ (¬ (v3 + (2 : Int32)) < x2 → (((8 : Int32) < x2 → (post (0 : Int32) u5)) ∧ (¬ (8 : Int32) < x2 → (wp_Md_knows u5 x1 x2 (fun (r10 : Int32) (u11 : MmdT) => ((r10 = (0 : Int32) → (∀ v13 : Int32, v13 = ((6 : Int32) + x1) → (∃ n62 : Nat, wp_Md_start_L62 (fun (y1 : Int32) (y2 : Int32) (y4 : Int32) (y5 : Int32) (z1 : MmdT) => (vp_in y1 6 ∧ (∀ w18 : MmdT, w18 = mmd_s_last z1 (upd (mmd_last z1) (y1).toNatClampNeg y4) → (vp_in y1 6 ∧ (∀ w19 : MmdT, w19 = mmd_s_slot w18 (upd (mmd_slot w18) (y1).toNatClampNeg y2) → (vp_in y1 6 ∧ (∀ w20 : MmdT, w20 = mmd_s_ballot w19 (upd (mmd_ballot w19) (y1).toNatClampNeg y4) → (vp_in y1 6 ∧ (∀ w21 : MmdT, w21 = mmd_s_promisers w20 (upd (mmd_promisers w20) (y1).toNatClampNeg (0 : Int32)) → (vp_in y1 6 ∧ (∀ w22 : MmdT, w22 = mmd_s_voters w21 (upd (mmd_voters w21) (y1).toNatClampNeg (0 : Int32)) → (vp_in y1 6 ∧ (∀ w23 : MmdT, w23 = mmd_s_bestBallot w22 (upd (mmd_bestBallot w22) (y1).toNatClampNeg (0 : Int32)) → (vp_in y1 6 ∧ (∀ w24 : MmdT, w24 = mmd_s_bestCommand w23 (upd (mmd_bestCommand w23) (y1).toNatClampNeg (0 : Int32)) → (vp_in y1 6 ∧ (∀ w25 : MmdT, w25 = mmd_s_command w24 (upd (mmd_command w24) (y1).toNatClampNeg (-1 : Int32)) → (post y4 w25)))))))))))))))))) n62 x1 x2 v13 (0 : Int32) u11))) ∧ (¬ r10 = (0 : Int32) → (post (0 : Int32) u11)))))))))))))))))))))
abbrev rm_Md_start : Room := { frames := 2, cells := 0, slots := 0, locals := 41 }
def wp_Md_barred (z1 : MmdT) (x1 : Int32) (x2 : Int32) (x3 : Int32) (post : Int32 → MmdT → Prop) : Prop := (wp_Md_node x1 (fun (r1 : Int32) => ((r1 = (0 : Int32) → (post (-1 : Int32) z1)) ∧ (¬ r1 = (0 : Int32) → (wp_Md_node x2 (fun (r3 : Int32) => ((r3 = (0 : Int32) → (post (-1 : Int32) z1)) ∧ (¬ r3 = (0 : Int32) → (wp_Md_isUp z1 x1 (fun (r5 : Int32) (u6 : MmdT) => ((r5 = (0 : Int32) → (post (0 : Int32) u6)) ∧ (¬ r5 = (0 : Int32) → (vp_in x1 6 ∧ ((((mmd_slot u6) (x1).toNatClampNeg) = (0 : Int32) → (post (0 : Int32) u6)) ∧ (¬ ((mmd_slot u6) (x1).toNatClampNeg) = (0 : Int32) → (wp_Md_membersOf u6 x1 (fun (r9 : Int32) (u10 : MmdT) => ((((r9 >>> (x2 &&& 31)) &&& (1 : Int32)) = (0 : Int32) → (post (0 : Int32) u10)) ∧ (¬ ((r9 >>> (x2 &&& 31)) &&& (1 : Int32)) = (0 : Int32) → ((x3 = (0 : Int32) → (wp_Md_isUp u10 x2 (fun (r13 : Int32) (u14 : MmdT) => ((r13 = (0 : Int32) → (post (-2 : Int32) u14)) ∧ (¬ r13 = (0 : Int32) → (post (1 : Int32) u14)))))) ∧ (¬ x3 = (0 : Int32) → (vp_in x1 6 ∧ (wp_Md_majority u10 ((mmd_promisers u10) (x1).toNatClampNeg) x1 (fun (r16 : Int32) (u17 : MmdT) => ((r16 = (0 : Int32) → (post (0 : Int32) u17)) ∧ (¬ r16 = (0 : Int32) → (wp_Md_isUp u17 x2 (fun (r19 : Int32) (u20 : MmdT) => ((r19 = (0 : Int32) → (post (-2 : Int32) u20)) ∧ (¬ r19 = (0 : Int32) → (post (1 : Int32) u20)))))))))))))))))))))))))))))))
abbrev rm_Md_barred : Room := { frames := 5, cells := 0, slots := 0, locals := 112 }
def wp_Md_answer (z1 : MmdT) (x1 : Int32) (x2 : Int32) (x3 : Int32) (post : Int32 → MmdT → Prop) : Prop := (vp_in x1 6 ∧ (vp_in x1 6 ∧ (∀ v1 : Int32, v1 = ((((45 : Int32) * x2) + ((9 : Int32) * ((mmd_configuration z1) (x1).toNatClampNeg))) + ((mmd_slot z1) (x1).toNatClampNeg)) → (vp_in x2 6 ∧ (vp_in x1 6 ∧ ((((mmd_retired z1) (x2).toNatClampNeg) ≤ ((mmd_configuration z1) (x1).toNatClampNeg) → (vp_in x1 6 ∧ (vp_in v1 270 ∧ ((((mmd_promised z1) (v1).toNatClampNeg) ≤ ((mmd_ballot z1) (x1).toNatClampNeg) → (vp_in x1 6 ∧ (vp_in v1 270 ∧ (∀ w4 : MmdT, w4 = mmd_s_promised z1 (upd (mmd_promised z1) (v1).toNatClampNeg ((mmd_ballot z1) (x1).toNatClampNeg)) → (post (1 : Int32) w4))))) ∧ (¬ ((mmd_promised z1) (v1).toNatClampNeg) ≤ ((mmd_ballot z1) (x1).toNatClampNeg) → ((x3 = (0 : Int32) → (post (2 : Int32) z1)) ∧ (¬ x3 = (0 : Int32) → (vp_in v1 270 ∧ (vp_in x1 6 ∧ ((((mmd_promised z1) (v1).toNatClampNeg) ≤ ((mmd_last z1) (x1).toNatClampNeg) → (post (2 : Int32) z1)) ∧ (¬ ((mmd_promised z1) (v1).toNatClampNeg) ≤ ((mmd_last z1) (x1).toNatClampNeg) → (vp_in v1 270 ∧ (vp_in x1 6 ∧ (∀ w7 : MmdT, w7 = mmd_s_last z1 (upd (mmd_last z1) (x1).toNatClampNeg ((mmd_promised z1) (v1).toNatClampNeg)) → (post (2 : Int32) w7))))))))))))))) ∧ (¬ ((mmd_retired z1) (x2).toNatClampNeg) ≤ ((mmd_configuration z1) (x1).toNatClampNeg) → ((x3 = (0 : Int32) → (post (3 : Int32) z1)) ∧ (¬ x3 = (0 : Int32) → (wp_Md_install z1 x1 x2 (fun (u10 : MmdT) => (post (3 : Int32) u10))))))))))))
abbrev rm_Md_answer : Room := { frames := 2, cells := 0, slots := 0, locals := 45 }
set_option maxHeartbeats 4000000 in
set_option maxRecDepth 100000 in
theorem c_Md_ask (l : Launch) (D : va_G) (cI cN cZ : ClassId) (a1 : Nat → Nat) (z1 : MmdT) (x1 : Int32) (x2 : Int32) (x3 : Int32) (post : Int32 → MmdT → Prop) (hw : wp_Md_ask z1 x1 x2 x3 post) : km_I l y_Md_ask (.code y_Md_ask b_Md_ask 4 (some .int) :: kmW) rm_Md_ask D kmC (kmT cI cN cZ) kmF kmM [.ref (a1 0), .int x1, .int x2, .int x3] (mmdW cI cN cZ a1 z1) (fun (r : Int32) (u : MmdT) => post r u) (fun (u : MmdT) => (mmdW cI cN cZ a1 u)) 0 0 := by
  refine km_startI (cc := b_Md_ask) (maxL := 4) (ret := (some .int)) (by decide) rfl (Nat.le_of_ble_eq_true rfl) ?_
  intro p e s m below meth c A ls hE hA hK hP hD hS hl
  obtain ⟨hx, hb, hr, hml, hown, hts0, hlk, hnm⟩ := id hE
  have hts : ∀ w ∈ kmW, w.before ([.ref (a1 0), .int x1, .int x2, .int x3] : List Value).toArray s = true := fun w h => hts0 w (List.mem_cons_of_mem _ h)
  have hP : va_P D kmC (mmdW cI cN cZ a1 z1) s.heap := hP
  have hl : lv_has ls 4 [(0, .ref (a1 0)), (1, .int x1), (2, .int x2), (3, .int x3)] := hl
  unfold wp_Md_ask at hw
  refine lv_iload_n hx hb d_Md_ask_0 rfl (lv_at hl 1 rfl) ?_
  refine lv_if_lt (tgt := 27) hx hb d_Md_ask_1 (by first | rfl | decide) (fun h1 => ?_) (fun h1 => ?_)
  · have hw := hw.1 h1
    refine lv_iconst (v := (-1 : Int32)) hx hb d_Md_ask_27 (by decide) ?_
    exact W.iret (v := (-1 : Int32)) hx hb hr (fun t ht hW => ⟨⟨(-1 : Int32), z1, rfl, hw, by rw [ht]; exact hP, hD⟩, hS.F ht⟩) hS.2.2 d_Md_ask_28
  · have hw := hw.2 h1
    refine lv_iload_n hx hb d_Md_ask_4 rfl (lv_at hl 1 rfl) ?_
    refine lv_iconst (v := (3 : Int32)) hx hb d_Md_ask_5 (by decide) ?_
    refine lv_icmp_gt (tgt := 27) hx hb d_Md_ask_6 (by first | rfl | decide) (fun h2 => ?_) (fun h2 => ?_)
    · have hw := hw.1 h2
      refine lv_iconst (v := (-1 : Int32)) hx hb d_Md_ask_27 (by decide) ?_
      exact W.iret (v := (-1 : Int32)) hx hb hr (fun t ht hW => ⟨⟨(-1 : Int32), z1, rfl, hw, by rw [ht]; exact hP, hD⟩, hS.F ht⟩) hS.2.2 d_Md_ask_28
    · have hw := hw.2 h2
      refine lv_iload_n hx hb d_Md_ask_9 rfl (lv_at hl 2 rfl) ?_
      refine lv_if_lt (tgt := 27) hx hb d_Md_ask_10 (by first | rfl | decide) (fun h3 => ?_) (fun h3 => ?_)
      · have hw := hw.1 h3
        refine lv_iconst (v := (-1 : Int32)) hx hb d_Md_ask_27 (by decide) ?_
        exact W.iret (v := (-1 : Int32)) hx hb hr (fun t ht hW => ⟨⟨(-1 : Int32), z1, rfl, hw, by rw [ht]; exact hP, hD⟩, hS.F ht⟩) hS.2.2 d_Md_ask_28
      · have hw := hw.2 h3
        refine lv_iload_n hx hb d_Md_ask_13 rfl (lv_at hl 2 rfl) ?_
        refine lv_iconst (v := (3 : Int32)) hx hb d_Md_ask_14 (by decide) ?_
        refine lv_icmp_gt (tgt := 27) hx hb d_Md_ask_15 (by first | rfl | decide) (fun h4 => ?_) (fun h4 => ?_)
        · have hw := hw.1 h4
          refine lv_iconst (v := (-1 : Int32)) hx hb d_Md_ask_27 (by decide) ?_
          exact W.iret (v := (-1 : Int32)) hx hb hr (fun t ht hW => ⟨⟨(-1 : Int32), z1, rfl, hw, by rw [ht]; exact hP, hD⟩, hS.F ht⟩) hS.2.2 d_Md_ask_28
        · have hw := hw.2 h4
          refine lv_aload_n hx hb d_Md_ask_18 rfl (lv_at hl 0 rfl) ?_
          refine va_get (D := D) (ci := 6) (v := .int (mmd_requests z1)) (C := R_Md) (T := F_Md) (N := 31) hx hb hts iw_Md hown hK.1 hP 0 rfl rfl 0 (by decide) (hts _ mw_427) (fun _ h => h) rfl d_Md_ask_19 ?_
          refine lv_bipush (v := (30 : Int32)) hx hb d_Md_ask_22 (by decide) ?_
          refine lv_icmp_ne (tgt := 29) hx hb d_Md_ask_24 (by first | rfl | decide) (fun h5 => ?_) (fun h5 => ?_)
          · have hw := hw.2 h5
            refine lv_iload_n hx hb d_Md_ask_29 rfl (lv_at hl 1 rfl) ?_
            refine lv_iconst (v := (3 : Int32)) hx hb d_Md_ask_30 (by decide) ?_
            refine lv_icmp_ne (tgt := 62) hx hb d_Md_ask_31 (by first | rfl | decide) (fun h6 => ?_) (fun h6 => ?_)
            · have hw := hw.2 h6
              refine lv_aload_n hx hb d_Md_ask_62 rfl (lv_at hl 0 rfl) ?_
              refine lv_dup hx hb d_Md_ask_63 rfl ?_
              refine va_get (D := D) (ci := 6) (v := .int (mmd_requests z1)) (C := R_Md) (T := F_Md) (N := 31) hx hb hts iw_Md hown hK.1 hP 0 rfl rfl 0 (by decide) (hts _ mw_427) (fun _ h => h) rfl d_Md_ask_64 ?_
              refine lv_iconst (v := (1 : Int32)) hx hb d_Md_ask_67 (by decide) ?_
              refine lv_iadd hx hb d_Md_ask_68 ?_
              refine va_put (D := D) (ci := 6) (v := .int ((mmd_requests z1) + (1 : Int32))) (ty := .int) (C := R_Md) (T := F_Md) (N := 31) hx hb hts iw_Md t_Md t_Md_ok n_Md hown hK.1 hP hD hS 0 rfl rfl 0 (by decide) (hts _ mw_427) (fun _ h => h) rfl (t_Md_ok 0 (by decide)) rfl rfl (Nat.le_of_ble_eq_true rfl) d_Md_ask_69 (fun H locs hP hD hS => ?_)
              have hP := (congrArg (fun w => va_P D kmC w H) (sw_mmd_s_requests cI cN cZ a1 z1 ((mmd_requests z1) + (1 : Int32)))).mp hP
              have hD := (congrArg (va_D A) (sw_mmd_s_requests cI cN cZ a1 z1 ((mmd_requests z1) + (1 : Int32)))).mp hD
              obtain ⟨w7, ew7⟩ : ∃ z : MmdT, z = mmd_s_requests z1 ((mmd_requests z1) + (1 : Int32)) := ⟨_, rfl⟩
              rw [← ew7] at hP hD
              have hw := hw w7 ew7
              refine lv_aload_n hx hb d_Md_ask_72 rfl (lv_at hl 0 rfl) ?_
              refine va_get (D := D) (ci := 6) (v := .ref (a1 1)) (C := R_Md) (T := F_Md) (N := 31) hx hb hts iw_Md hown hK.1 hP 0 rfl rfl 1 (by decide) (hts _ mw_428) (fun _ h => h) rfl d_Md_ask_73 ?_
              refine lv_aload_n hx hb d_Md_ask_76 rfl (lv_at hl 0 rfl) ?_
              refine va_get (D := D) (ci := 6) (v := .int (mmd_requests w7)) (C := R_Md) (T := F_Md) (N := 31) hx hb hts iw_Md hown hK.1 hP 0 rfl rfl 0 (by decide) (hts _ mw_427) (fun _ h => h) rfl d_Md_ask_77 ?_
              refine lv_iload_n hx hb d_Md_ask_80 rfl (lv_at hl 1 rfl) ?_
              obtain ⟨hin, hw⟩ := hw
              refine va_iast (f := (mmd_kindOf w7)) hx hb hK.1 hP hD hS 1 0 rfl rfl hin d_Md_ask_81 (fun H locs hP hD hS => ?_)
              have hP := (congrArg (fun w => va_P D kmC w H) (sw_mmd_s_kindOf cI cN cZ a1 w7 (upd (mmd_kindOf w7) ((mmd_requests w7)).toNatClampNeg x1))).mp hP
              have hD := (congrArg (va_D A) (sw_mmd_s_kindOf cI cN cZ a1 w7 (upd (mmd_kindOf w7) ((mmd_requests w7)).toNatClampNeg x1))).mp hD
              obtain ⟨w8, ew8⟩ : ∃ z : MmdT, z = mmd_s_kindOf w7 (upd (mmd_kindOf w7) ((mmd_requests w7)).toNatClampNeg x1) := ⟨_, rfl⟩
              rw [← ew8] at hP hD
              have hw := hw w8 ew8
              refine lv_aload_n hx hb d_Md_ask_82 rfl (lv_at hl 0 rfl) ?_
              refine va_get (D := D) (ci := 6) (v := .ref (a1 2)) (C := R_Md) (T := F_Md) (N := 31) hx hb hts iw_Md hown hK.1 hP 0 rfl rfl 2 (by decide) (hts _ mw_429) (fun _ h => h) rfl d_Md_ask_83 ?_
              refine lv_aload_n hx hb d_Md_ask_86 rfl (lv_at hl 0 rfl) ?_
              refine va_get (D := D) (ci := 6) (v := .int (mmd_requests w8)) (C := R_Md) (T := F_Md) (N := 31) hx hb hts iw_Md hown hK.1 hP 0 rfl rfl 0 (by decide) (hts _ mw_427) (fun _ h => h) rfl d_Md_ask_87 ?_
              refine lv_iload_n hx hb d_Md_ask_90 rfl (lv_at hl 2 rfl) ?_
              obtain ⟨hin, hw⟩ := hw
              refine va_iast (f := (mmd_keyOf w8)) hx hb hK.1 hP hD hS 2 0 rfl rfl hin d_Md_ask_91 (fun H locs hP hD hS => ?_)
              have hP := (congrArg (fun w => va_P D kmC w H) (sw_mmd_s_keyOf cI cN cZ a1 w8 (upd (mmd_keyOf w8) ((mmd_requests w8)).toNatClampNeg x2))).mp hP
              have hD := (congrArg (va_D A) (sw_mmd_s_keyOf cI cN cZ a1 w8 (upd (mmd_keyOf w8) ((mmd_requests w8)).toNatClampNeg x2))).mp hD
              obtain ⟨w9, ew9⟩ : ∃ z : MmdT, z = mmd_s_keyOf w8 (upd (mmd_keyOf w8) ((mmd_requests w8)).toNatClampNeg x2) := ⟨_, rfl⟩
              rw [← ew9] at hP hD
              have hw := hw w9 ew9
              refine lv_aload_n hx hb d_Md_ask_92 rfl (lv_at hl 0 rfl) ?_
              refine va_get (D := D) (ci := 6) (v := .ref (a1 3)) (C := R_Md) (T := F_Md) (N := 31) hx hb hts iw_Md hown hK.1 hP 0 rfl rfl 3 (by decide) (hts _ mw_430) (fun _ h => h) rfl d_Md_ask_93 ?_
              refine lv_aload_n hx hb d_Md_ask_96 rfl (lv_at hl 0 rfl) ?_
              refine va_get (D := D) (ci := 6) (v := .int (mmd_requests w9)) (C := R_Md) (T := F_Md) (N := 31) hx hb hts iw_Md hown hK.1 hP 0 rfl rfl 0 (by decide) (hts _ mw_427) (fun _ h => h) rfl d_Md_ask_97 ?_
              refine lv_iload_n hx hb d_Md_ask_100 rfl (lv_at hl 3 rfl) ?_
              obtain ⟨hin, hw⟩ := hw
              refine va_iast (f := (mmd_numberOf w9)) hx hb hK.1 hP hD hS 3 0 rfl rfl hin d_Md_ask_101 (fun H locs hP hD hS => ?_)
              have hP := (congrArg (fun w => va_P D kmC w H) (sw_mmd_s_numberOf cI cN cZ a1 w9 (upd (mmd_numberOf w9) ((mmd_requests w9)).toNatClampNeg x3))).mp hP
              have hD := (congrArg (va_D A) (sw_mmd_s_numberOf cI cN cZ a1 w9 (upd (mmd_numberOf w9) ((mmd_requests w9)).toNatClampNeg x3))).mp hD
              obtain ⟨w10, ew10⟩ : ∃ z : MmdT, z = mmd_s_numberOf w9 (upd (mmd_numberOf w9) ((mmd_requests w9)).toNatClampNeg x3) := ⟨_, rfl⟩
              rw [← ew10] at hP hD
              have hw := hw w10 ew10
              refine lv_aload_n hx hb d_Md_ask_102 rfl (lv_at hl 0 rfl) ?_
              refine va_get (D := D) (ci := 6) (v := .int (mmd_requests w10)) (C := R_Md) (T := F_Md) (N := 31) hx hb hts iw_Md hown hK.1 hP 0 rfl rfl 0 (by decide) (hts _ mw_427) (fun _ h => h) rfl d_Md_ask_103 ?_
              exact W.iret (v := (mmd_requests w10)) hx hb hr (fun t ht hW => ⟨⟨(mmd_requests w10), w10, rfl, hw, by rw [ht]; exact hP, hD⟩, hS.F ht⟩) hS.2.2 d_Md_ask_106
            · have hw := hw.1 h6
              refine lv_iload_n hx hb d_Md_ask_34 rfl (lv_at hl 3 rfl) ?_
              refine lv_if_lt (tgt := 60) hx hb d_Md_ask_35 (by first | rfl | decide) (fun h11 => ?_) (fun h11 => ?_)
              · have hw := hw.1 h11
                refine lv_iconst (v := (-1 : Int32)) hx hb d_Md_ask_60 (by decide) ?_
                exact W.iret (v := (-1 : Int32)) hx hb hr (fun t ht hW => ⟨⟨(-1 : Int32), z1, rfl, hw, by rw [ht]; exact hP, hD⟩, hS.F ht⟩) hS.2.2 d_Md_ask_61
              · have hw := hw.2 h11
                refine lv_iload_n hx hb d_Md_ask_38 rfl (lv_at hl 3 rfl) ?_
                refine lv_bipush (v := (63 : Int32)) hx hb d_Md_ask_39 (by decide) ?_
                refine lv_icmp_gt (tgt := 60) hx hb d_Md_ask_41 (by first | rfl | decide) (fun h12 => ?_) (fun h12 => ?_)
                · have hw := hw.1 h12
                  refine lv_iconst (v := (-1 : Int32)) hx hb d_Md_ask_60 (by decide) ?_
                  exact W.iret (v := (-1 : Int32)) hx hb hr (fun t ht hW => ⟨⟨(-1 : Int32), z1, rfl, hw, by rw [ht]; exact hP, hD⟩, hS.F ht⟩) hS.2.2 d_Md_ask_61
                · have hw := hw.2 h12
                  refine lv_iload_n hx hb d_Md_ask_44 rfl (lv_at hl 3 rfl) ?_
                  refine km_ci (wr := [(a1 0, .inr (6, [.int (mmd_requests z1), .ref (a1 1), .ref (a1 2), .ref (a1 3), .ref (a1 4), .ref (a1 5), .int (mmd_router z1), .ref (a1 6), .int (mmd_up z1), .ref (a1 7), .ref (a1 8), .ref (a1 9), .ref (a1 10), .ref (a1 11), .ref (a1 12), .ref (a1 13), .ref (a1 14), .ref (a1 15), .ref (a1 16), .ref (a1 17), .ref (a1 18), .ref (a1 19), .ref (a1 20), .ref (a1 21), .ref (a1 22), .ref (a1 23), .ref (a1 24), .ref (a1 25), .int (mmd_members z1), .int (mmd_atC z1), .int (mmd_atE z1)])), (a1 1, .inl (cI, 31, .inl (mmd_kindOf z1))), (a1 2, .inl (cI, 31, .inl (mmd_keyOf z1))), (a1 3, .inl (cI, 31, .inl (mmd_numberOf z1))), (a1 4, .inl (cI, 31, .inl (mmd_heardOf z1))), (a1 5, .inl (cI, 31, .inl (mmd_replyOf z1))), (a1 6, .inl (cI, 45, .inl (mmd_decided z1))), (a1 7, .inl (cI, 6, .inl (mmd_configuration z1))), (a1 8, .inl (cI, 6, .inl (mmd_executed z1))), (a1 9, .inl (cI, 6, .inl (mmd_known z1))), (a1 10, .inl (cI, 6, .inl (mmd_last z1))), (a1 11, .inl (cI, 6, .inl (mmd_retired z1))), (a1 12, .inl (cI, 6, .inl (mmd_pending z1))), (a1 13, .inl (cI, 270, .inl (mmd_promised z1))), (a1 14, .inl (cI, 270, .inl (mmd_voteBallot z1))), (a1 15, .inl (cI, 270, .inl (mmd_voteCommand z1))), (a1 16, .inl (cI, 6, .inl (mmd_slot z1))), (a1 17, .inl (cI, 6, .inl (mmd_ballot z1))), (a1 18, .inl (cI, 6, .inl (mmd_promisers z1))), (a1 19, .inl (cI, 6, .inl (mmd_voters z1))), (a1 20, .inl (cI, 6, .inl (mmd_bestBallot z1))), (a1 21, .inl (cI, 6, .inl (mmd_bestCommand z1))), (a1 22, .inl (cI, 6, .inl (mmd_command z1))), (a1 23, .inl (cI, 4, .inl (mmd_values z1))), (a1 24, .inl (cZ, 31, .inl (mmd_done z1))), (a1 25, .inl (cI, 31, .inl (mmd_answers z1)))]) (km_rS (n := 1) hE kmG (c_Md_count l D cI cN cZ x3 _ hw) mw_528 mw_526 mw_527 mw_8 (by decide) ⟨rfl, rfl, ⟨by decide, by decide⟩, by decide, by decide⟩ hK (km_cut hP [] rfl) (hD.sub [] (by decide) rfl) rfl hl.1 rfl (Nat.le_of_ble_eq_true rfl) d_Md_ask_45) hP hD hS hA [] [0, 1, 2, 3, 4, 5, 6, 7, 8, 9, 10, 11, 12, 13, 14, 15, 16, 17, 18, 19, 20, 21, 22, 23, 24, 25] rfl rfl (by decide) (by decide) (fun r13 _ H locs hw hP hD hS => ?_)
                  have hP := hP.sub (ws' := (mmdW cI cN cZ a1 z1)) [0, 1, 2, 3, 4, 5, 6, 7, 8, 9, 10, 11, 12, 13, 14, 15, 16, 17, 18, 19, 20, 21, 22, 23, 24, 25] rfl
                  have hD := hD.sub (ws' := (mmdW cI cN cZ a1 z1)) [0, 1, 2, 3, 4, 5, 6, 7, 8, 9, 10, 11, 12, 13, 14, 15, 16, 17, 18, 19, 20, 21, 22, 23, 24, 25] (by decide) rfl
                  refine lv_iconst (v := (3 : Int32)) hx hb d_Md_ask_48 (by decide) ?_
                  refine lv_icmp_lt (tgt := 60) hx hb d_Md_ask_49 (by first | rfl | decide) (fun h14 => ?_) (fun h14 => ?_)
                  · have hw := hw.1 h14
                    refine lv_iconst (v := (-1 : Int32)) hx hb d_Md_ask_60 (by decide) ?_
                    exact W.iret (v := (-1 : Int32)) hx hb hr (fun t ht hW => ⟨⟨(-1 : Int32), z1, rfl, hw, by rw [ht]; exact hP, hD⟩, hS.F ht⟩) hS.2.2 d_Md_ask_61
                  · have hw := hw.2 h14
                    refine lv_iload_n hx hb d_Md_ask_52 rfl (lv_at hl 3 rfl) ?_
                    refine km_ci (wr := [(a1 0, .inr (6, [.int (mmd_requests z1), .ref (a1 1), .ref (a1 2), .ref (a1 3), .ref (a1 4), .ref (a1 5), .int (mmd_router z1), .ref (a1 6), .int (mmd_up z1), .ref (a1 7), .ref (a1 8), .ref (a1 9), .ref (a1 10), .ref (a1 11), .ref (a1 12), .ref (a1 13), .ref (a1 14), .ref (a1 15), .ref (a1 16), .ref (a1 17), .ref (a1 18), .ref (a1 19), .ref (a1 20), .ref (a1 21), .ref (a1 22), .ref (a1 23), .ref (a1 24), .ref (a1 25), .int (mmd_members z1), .int (mmd_atC z1), .int (mmd_atE z1)])), (a1 1, .inl (cI, 31, .inl (mmd_kindOf z1))), (a1 2, .inl (cI, 31, .inl (mmd_keyOf z1))), (a1 3, .inl (cI, 31, .inl (mmd_numberOf z1))), (a1 4, .inl (cI, 31, .inl (mmd_heardOf z1))), (a1 5, .inl (cI, 31, .inl (mmd_replyOf z1))), (a1 6, .inl (cI, 45, .inl (mmd_decided z1))), (a1 7, .inl (cI, 6, .inl (mmd_configuration z1))), (a1 8, .inl (cI, 6, .inl (mmd_executed z1))), (a1 9, .inl (cI, 6, .inl (mmd_known z1))), (a1 10, .inl (cI, 6, .inl (mmd_last z1))), (a1 11, .inl (cI, 6, .inl (mmd_retired z1))), (a1 12, .inl (cI, 6, .inl (mmd_pending z1))), (a1 13, .inl (cI, 270, .inl (mmd_promised z1))), (a1 14, .inl (cI, 270, .inl (mmd_voteBallot z1))), (a1 15, .inl (cI, 270, .inl (mmd_voteCommand z1))), (a1 16, .inl (cI, 6, .inl (mmd_slot z1))), (a1 17, .inl (cI, 6, .inl (mmd_ballot z1))), (a1 18, .inl (cI, 6, .inl (mmd_promisers z1))), (a1 19, .inl (cI, 6, .inl (mmd_voters z1))), (a1 20, .inl (cI, 6, .inl (mmd_bestBallot z1))), (a1 21, .inl (cI, 6, .inl (mmd_bestCommand z1))), (a1 22, .inl (cI, 6, .inl (mmd_command z1))), (a1 23, .inl (cI, 4, .inl (mmd_values z1))), (a1 24, .inl (cZ, 31, .inl (mmd_done z1))), (a1 25, .inl (cI, 31, .inl (mmd_answers z1)))]) (km_rS (n := 1) hE kmG (c_Md_count l D cI cN cZ x3 _ hw) mw_528 mw_526 mw_527 mw_8 (by decide) ⟨rfl, rfl, ⟨by decide, by decide⟩, by decide, by decide⟩ hK (km_cut hP [] rfl) (hD.sub [] (by decide) rfl) rfl hl.1 rfl (Nat.le_of_ble_eq_true rfl) d_Md_ask_53) hP hD hS hA [] [0, 1, 2, 3, 4, 5, 6, 7, 8, 9, 10, 11, 12, 13, 14, 15, 16, 17, 18, 19, 20, 21, 22, 23, 24, 25] rfl rfl (by decide) (by decide) (fun r15 _ H locs hw hP hD hS => ?_)
                    have hP := hP.sub (ws' := (mmdW cI cN cZ a1 z1)) [0, 1, 2, 3, 4, 5, 6, 7, 8, 9, 10, 11, 12, 13, 14, 15, 16, 17, 18, 19, 20, 21, 22, 23, 24, 25] rfl
                    have hD := hD.sub (ws' := (mmdW cI cN cZ a1 z1)) [0, 1, 2, 3, 4, 5, 6, 7, 8, 9, 10, 11, 12, 13, 14, 15, 16, 17, 18, 19, 20, 21, 22, 23, 24, 25] (by decide) rfl
                    refine lv_iconst (v := (5 : Int32)) hx hb d_Md_ask_56 (by decide) ?_
                    refine lv_icmp_le (tgt := 62) hx hb d_Md_ask_57 (by first | rfl | decide) (fun h16 => ?_) (fun h16 => ?_)
                    · have hw := hw.1 h16
                      refine lv_aload_n hx hb d_Md_ask_62 rfl (lv_at hl 0 rfl) ?_
                      refine lv_dup hx hb d_Md_ask_63 rfl ?_
                      refine va_get (D := D) (ci := 6) (v := .int (mmd_requests z1)) (C := R_Md) (T := F_Md) (N := 31) hx hb hts iw_Md hown hK.1 hP 0 rfl rfl 0 (by decide) (hts _ mw_427) (fun _ h => h) rfl d_Md_ask_64 ?_
                      refine lv_iconst (v := (1 : Int32)) hx hb d_Md_ask_67 (by decide) ?_
                      refine lv_iadd hx hb d_Md_ask_68 ?_
                      refine va_put (D := D) (ci := 6) (v := .int ((mmd_requests z1) + (1 : Int32))) (ty := .int) (C := R_Md) (T := F_Md) (N := 31) hx hb hts iw_Md t_Md t_Md_ok n_Md hown hK.1 hP hD hS 0 rfl rfl 0 (by decide) (hts _ mw_427) (fun _ h => h) rfl (t_Md_ok 0 (by decide)) rfl rfl (Nat.le_of_ble_eq_true rfl) d_Md_ask_69 (fun H locs hP hD hS => ?_)
                      have hP := (congrArg (fun w => va_P D kmC w H) (sw_mmd_s_requests cI cN cZ a1 z1 ((mmd_requests z1) + (1 : Int32)))).mp hP
                      have hD := (congrArg (va_D A) (sw_mmd_s_requests cI cN cZ a1 z1 ((mmd_requests z1) + (1 : Int32)))).mp hD
                      obtain ⟨w17, ew17⟩ : ∃ z : MmdT, z = mmd_s_requests z1 ((mmd_requests z1) + (1 : Int32)) := ⟨_, rfl⟩
                      rw [← ew17] at hP hD
                      have hw := hw w17 ew17
                      refine lv_aload_n hx hb d_Md_ask_72 rfl (lv_at hl 0 rfl) ?_
                      refine va_get (D := D) (ci := 6) (v := .ref (a1 1)) (C := R_Md) (T := F_Md) (N := 31) hx hb hts iw_Md hown hK.1 hP 0 rfl rfl 1 (by decide) (hts _ mw_428) (fun _ h => h) rfl d_Md_ask_73 ?_
                      refine lv_aload_n hx hb d_Md_ask_76 rfl (lv_at hl 0 rfl) ?_
                      refine va_get (D := D) (ci := 6) (v := .int (mmd_requests w17)) (C := R_Md) (T := F_Md) (N := 31) hx hb hts iw_Md hown hK.1 hP 0 rfl rfl 0 (by decide) (hts _ mw_427) (fun _ h => h) rfl d_Md_ask_77 ?_
                      refine lv_iload_n hx hb d_Md_ask_80 rfl (lv_at hl 1 rfl) ?_
                      obtain ⟨hin, hw⟩ := hw
                      refine va_iast (f := (mmd_kindOf w17)) hx hb hK.1 hP hD hS 1 0 rfl rfl hin d_Md_ask_81 (fun H locs hP hD hS => ?_)
                      have hP := (congrArg (fun w => va_P D kmC w H) (sw_mmd_s_kindOf cI cN cZ a1 w17 (upd (mmd_kindOf w17) ((mmd_requests w17)).toNatClampNeg x1))).mp hP
                      have hD := (congrArg (va_D A) (sw_mmd_s_kindOf cI cN cZ a1 w17 (upd (mmd_kindOf w17) ((mmd_requests w17)).toNatClampNeg x1))).mp hD
                      obtain ⟨w18, ew18⟩ : ∃ z : MmdT, z = mmd_s_kindOf w17 (upd (mmd_kindOf w17) ((mmd_requests w17)).toNatClampNeg x1) := ⟨_, rfl⟩
                      rw [← ew18] at hP hD
                      have hw := hw w18 ew18
                      refine lv_aload_n hx hb d_Md_ask_82 rfl (lv_at hl 0 rfl) ?_
                      refine va_get (D := D) (ci := 6) (v := .ref (a1 2)) (C := R_Md) (T := F_Md) (N := 31) hx hb hts iw_Md hown hK.1 hP 0 rfl rfl 2 (by decide) (hts _ mw_429) (fun _ h => h) rfl d_Md_ask_83 ?_
                      refine lv_aload_n hx hb d_Md_ask_86 rfl (lv_at hl 0 rfl) ?_
                      refine va_get (D := D) (ci := 6) (v := .int (mmd_requests w18)) (C := R_Md) (T := F_Md) (N := 31) hx hb hts iw_Md hown hK.1 hP 0 rfl rfl 0 (by decide) (hts _ mw_427) (fun _ h => h) rfl d_Md_ask_87 ?_
                      refine lv_iload_n hx hb d_Md_ask_90 rfl (lv_at hl 2 rfl) ?_
                      obtain ⟨hin, hw⟩ := hw
                      refine va_iast (f := (mmd_keyOf w18)) hx hb hK.1 hP hD hS 2 0 rfl rfl hin d_Md_ask_91 (fun H locs hP hD hS => ?_)
                      have hP := (congrArg (fun w => va_P D kmC w H) (sw_mmd_s_keyOf cI cN cZ a1 w18 (upd (mmd_keyOf w18) ((mmd_requests w18)).toNatClampNeg x2))).mp hP
                      have hD := (congrArg (va_D A) (sw_mmd_s_keyOf cI cN cZ a1 w18 (upd (mmd_keyOf w18) ((mmd_requests w18)).toNatClampNeg x2))).mp hD
                      obtain ⟨w19, ew19⟩ : ∃ z : MmdT, z = mmd_s_keyOf w18 (upd (mmd_keyOf w18) ((mmd_requests w18)).toNatClampNeg x2) := ⟨_, rfl⟩
                      rw [← ew19] at hP hD
                      have hw := hw w19 ew19
                      refine lv_aload_n hx hb d_Md_ask_92 rfl (lv_at hl 0 rfl) ?_
                      refine va_get (D := D) (ci := 6) (v := .ref (a1 3)) (C := R_Md) (T := F_Md) (N := 31) hx hb hts iw_Md hown hK.1 hP 0 rfl rfl 3 (by decide) (hts _ mw_430) (fun _ h => h) rfl d_Md_ask_93 ?_
                      refine lv_aload_n hx hb d_Md_ask_96 rfl (lv_at hl 0 rfl) ?_
                      refine va_get (D := D) (ci := 6) (v := .int (mmd_requests w19)) (C := R_Md) (T := F_Md) (N := 31) hx hb hts iw_Md hown hK.1 hP 0 rfl rfl 0 (by decide) (hts _ mw_427) (fun _ h => h) rfl d_Md_ask_97 ?_
                      refine lv_iload_n hx hb d_Md_ask_100 rfl (lv_at hl 3 rfl) ?_
                      obtain ⟨hin, hw⟩ := hw
                      refine va_iast (f := (mmd_numberOf w19)) hx hb hK.1 hP hD hS 3 0 rfl rfl hin d_Md_ask_101 (fun H locs hP hD hS => ?_)
                      have hP := (congrArg (fun w => va_P D kmC w H) (sw_mmd_s_numberOf cI cN cZ a1 w19 (upd (mmd_numberOf w19) ((mmd_requests w19)).toNatClampNeg x3))).mp hP
                      have hD := (congrArg (va_D A) (sw_mmd_s_numberOf cI cN cZ a1 w19 (upd (mmd_numberOf w19) ((mmd_requests w19)).toNatClampNeg x3))).mp hD
                      obtain ⟨w20, ew20⟩ : ∃ z : MmdT, z = mmd_s_numberOf w19 (upd (mmd_numberOf w19) ((mmd_requests w19)).toNatClampNeg x3) := ⟨_, rfl⟩
                      rw [← ew20] at hP hD
                      have hw := hw w20 ew20
                      refine lv_aload_n hx hb d_Md_ask_102 rfl (lv_at hl 0 rfl) ?_
                      refine va_get (D := D) (ci := 6) (v := .int (mmd_requests w20)) (C := R_Md) (T := F_Md) (N := 31) hx hb hts iw_Md hown hK.1 hP 0 rfl rfl 0 (by decide) (hts _ mw_427) (fun _ h => h) rfl d_Md_ask_103 ?_
                      exact W.iret (v := (mmd_requests w20)) hx hb hr (fun t ht hW => ⟨⟨(mmd_requests w20), w20, rfl, hw, by rw [ht]; exact hP, hD⟩, hS.F ht⟩) hS.2.2 d_Md_ask_106
                    · have hw := hw.2 h16
                      refine lv_iconst (v := (-1 : Int32)) hx hb d_Md_ask_60 (by decide) ?_
                      exact W.iret (v := (-1 : Int32)) hx hb hr (fun t ht hW => ⟨⟨(-1 : Int32), z1, rfl, hw, by rw [ht]; exact hP, hD⟩, hS.F ht⟩) hS.2.2 d_Md_ask_61
          · have hw := hw.1 h5
            refine lv_iconst (v := (-1 : Int32)) hx hb d_Md_ask_27 (by decide) ?_
            exact W.iret (v := (-1 : Int32)) hx hb hr (fun t ht hW => ⟨⟨(-1 : Int32), z1, rfl, hw, by rw [ht]; exact hP, hD⟩, hS.F ht⟩) hS.2.2 d_Md_ask_28
set_option maxHeartbeats 4000000 in
set_option maxRecDepth 100000 in
theorem c_Md_route (l : Launch) (D : va_G) (cI cN cZ : ClassId) (a1 : Nat → Nat) (z1 : MmdT) (x1 : Int32) (x2 : Int32) (post : Int32 → MmdT → Prop) (hw : wp_Md_route z1 x1 x2 post) : km_I l y_Md_route (.code y_Md_route b_Md_route 3 (some .int) :: kmW) rm_Md_route D kmC (kmT cI cN cZ) kmF kmM [.ref (a1 0), .int x1, .int x2] (mmdW cI cN cZ a1 z1) (fun (r : Int32) (u : MmdT) => post r u) (fun (u : MmdT) => (mmdW cI cN cZ a1 u)) 0 0 := by
  refine km_startI (cc := b_Md_route) (maxL := 3) (ret := (some .int)) (by decide) rfl (Nat.le_of_ble_eq_true rfl) ?_
  intro p e s m below meth c A ls hE hA hK hP hD hS hl
  obtain ⟨hx, hb, hr, hml, hown, hts0, hlk, hnm⟩ := id hE
  have hts : ∀ w ∈ kmW, w.before ([.ref (a1 0), .int x1, .int x2] : List Value).toArray s = true := fun w h => hts0 w (List.mem_cons_of_mem _ h)
  have hP : va_P D kmC (mmdW cI cN cZ a1 z1) s.heap := hP
  have hl : lv_has ls 3 [(0, .ref (a1 0)), (1, .int x1), (2, .int x2)] := hl
  unfold wp_Md_route at hw
  refine lv_iload_n hx hb d_Md_route_0 rfl (lv_at hl 1 rfl) ?_
  refine lv_iconst (v := (1 : Int32)) hx hb d_Md_route_1 (by decide) ?_
  refine lv_icmp_lt (tgt := 20) hx hb d_Md_route_2 (by first | rfl | decide) (fun h1 => ?_) (fun h1 => ?_)
  · have hw := hw.1 h1
    refine lv_iconst (v := (-1 : Int32)) hx hb d_Md_route_20 (by decide) ?_
    exact W.iret (v := (-1 : Int32)) hx hb hr (fun t ht hW => ⟨⟨(-1 : Int32), z1, rfl, hw, by rw [ht]; exact hP, hD⟩, hS.F ht⟩) hS.2.2 d_Md_route_21
  · have hw := hw.2 h1
    refine lv_iload_n hx hb d_Md_route_5 rfl (lv_at hl 1 rfl) ?_
    refine lv_aload_n hx hb d_Md_route_6 rfl (lv_at hl 0 rfl) ?_
    refine va_get (D := D) (ci := 6) (v := .int (mmd_requests z1)) (C := R_Md) (T := F_Md) (N := 31) hx hb hts iw_Md hown hK.1 hP 0 rfl rfl 0 (by decide) (hts _ mw_427) (fun _ h => h) rfl d_Md_route_7 ?_
    refine lv_icmp_gt (tgt := 20) hx hb d_Md_route_10 (by first | rfl | decide) (fun h2 => ?_) (fun h2 => ?_)
    · have hw := hw.1 h2
      refine lv_iconst (v := (-1 : Int32)) hx hb d_Md_route_20 (by decide) ?_
      exact W.iret (v := (-1 : Int32)) hx hb hr (fun t ht hW => ⟨⟨(-1 : Int32), z1, rfl, hw, by rw [ht]; exact hP, hD⟩, hS.F ht⟩) hS.2.2 d_Md_route_21
    · have hw := hw.2 h2
      refine lv_iload_n hx hb d_Md_route_13 rfl (lv_at hl 2 rfl) ?_
      refine km_ci (wr := [(a1 0, .inr (6, [.int (mmd_requests z1), .ref (a1 1), .ref (a1 2), .ref (a1 3), .ref (a1 4), .ref (a1 5), .int (mmd_router z1), .ref (a1 6), .int (mmd_up z1), .ref (a1 7), .ref (a1 8), .ref (a1 9), .ref (a1 10), .ref (a1 11), .ref (a1 12), .ref (a1 13), .ref (a1 14), .ref (a1 15), .ref (a1 16), .ref (a1 17), .ref (a1 18), .ref (a1 19), .ref (a1 20), .ref (a1 21), .ref (a1 22), .ref (a1 23), .ref (a1 24), .ref (a1 25), .int (mmd_members z1), .int (mmd_atC z1), .int (mmd_atE z1)])), (a1 1, .inl (cI, 31, .inl (mmd_kindOf z1))), (a1 2, .inl (cI, 31, .inl (mmd_keyOf z1))), (a1 3, .inl (cI, 31, .inl (mmd_numberOf z1))), (a1 4, .inl (cI, 31, .inl (mmd_heardOf z1))), (a1 5, .inl (cI, 31, .inl (mmd_replyOf z1))), (a1 6, .inl (cI, 45, .inl (mmd_decided z1))), (a1 7, .inl (cI, 6, .inl (mmd_configuration z1))), (a1 8, .inl (cI, 6, .inl (mmd_executed z1))), (a1 9, .inl (cI, 6, .inl (mmd_known z1))), (a1 10, .inl (cI, 6, .inl (mmd_last z1))), (a1 11, .inl (cI, 6, .inl (mmd_retired z1))), (a1 12, .inl (cI, 6, .inl (mmd_pending z1))), (a1 13, .inl (cI, 270, .inl (mmd_promised z1))), (a1 14, .inl (cI, 270, .inl (mmd_voteBallot z1))), (a1 15, .inl (cI, 270, .inl (mmd_voteCommand z1))), (a1 16, .inl (cI, 6, .inl (mmd_slot z1))), (a1 17, .inl (cI, 6, .inl (mmd_ballot z1))), (a1 18, .inl (cI, 6, .inl (mmd_promisers z1))), (a1 19, .inl (cI, 6, .inl (mmd_voters z1))), (a1 20, .inl (cI, 6, .inl (mmd_bestBallot z1))), (a1 21, .inl (cI, 6, .inl (mmd_bestCommand z1))), (a1 22, .inl (cI, 6, .inl (mmd_command z1))), (a1 23, .inl (cI, 4, .inl (mmd_values z1))), (a1 24, .inl (cZ, 31, .inl (mmd_done z1))), (a1 25, .inl (cI, 31, .inl (mmd_answers z1)))]) (km_rS (n := 1) hE kmG (c_Md_node l D cI cN cZ x2 _ hw) mw_535 mw_533 mw_534 mw_8 (by decide) ⟨rfl, rfl, ⟨by decide, by decide⟩, by decide, by decide⟩ hK (km_cut hP [] rfl) (hD.sub [] (by decide) rfl) rfl hl.1 rfl (Nat.le_of_ble_eq_true rfl) d_Md_route_14) hP hD hS hA [] [0, 1, 2, 3, 4, 5, 6, 7, 8, 9, 10, 11, 12, 13, 14, 15, 16, 17, 18, 19, 20, 21, 22, 23, 24, 25] rfl rfl (by decide) (by decide) (fun r3 _ H locs hw hP hD hS => ?_)
      have hP := hP.sub (ws' := (mmdW cI cN cZ a1 z1)) [0, 1, 2, 3, 4, 5, 6, 7, 8, 9, 10, 11, 12, 13, 14, 15, 16, 17, 18, 19, 20, 21, 22, 23, 24, 25] rfl
      have hD := hD.sub (ws' := (mmdW cI cN cZ a1 z1)) [0, 1, 2, 3, 4, 5, 6, 7, 8, 9, 10, 11, 12, 13, 14, 15, 16, 17, 18, 19, 20, 21, 22, 23, 24, 25] (by decide) rfl
      refine lv_if_ne (tgt := 22) hx hb d_Md_route_17 (by first | rfl | decide) (fun h4 => ?_) (fun h4 => ?_)
      · have hw := hw.2 h4
        refine lv_aload_n hx hb d_Md_route_22 rfl (lv_at hl 0 rfl) ?_
        refine lv_iload_n hx hb d_Md_route_23 rfl (lv_at hl 2 rfl) ?_
        refine km_ci (wr := []) (km_rV (n := 1) hE kmG (c_Md_isUp l D cI cN cZ a1 z1 x2 _ hw) mw_539 mw_536 mw_538 mp_29 mw_8 (by decide) ⟨rfl, rfl, ⟨by decide, by decide⟩, by decide, by decide⟩ hK (km_cut hP [0, 1, 2, 3, 4, 5, 6, 7, 8, 9, 10, 11, 12, 13, 14, 15, 16, 17, 18, 19, 20, 21, 22, 23, 24, 25] rfl) (hD.sub [0, 1, 2, 3, 4, 5, 6, 7, 8, 9, 10, 11, 12, 13, 14, 15, 16, 17, 18, 19, 20, 21, 22, 23, 24, 25] (by decide) rfl) (ci := 6) rfl hP (q0 := 0) rfl rfl hl.1 rfl (Nat.le_of_ble_eq_true rfl) d_Md_route_24) hP hD hS hA [0, 1, 2, 3, 4, 5, 6, 7, 8, 9, 10, 11, 12, 13, 14, 15, 16, 17, 18, 19, 20, 21, 22, 23, 24, 25] [] rfl rfl (by decide) (by decide) (fun r5 u6 H locs hw hP hD hS => ?_)
        have hP : va_P D kmC (mmdW cI cN cZ a1 u6) H := hP
        have hD : va_D A (mmdW cI cN cZ a1 u6) := hD
        refine lv_if_ne (tgt := 32) hx hb d_Md_route_27 (by first | rfl | decide) (fun h7 => ?_) (fun h7 => ?_)
        · have hw := hw.2 h7
          refine lv_aload_n hx hb d_Md_route_32 rfl (lv_at hl 0 rfl) ?_
          refine va_get (D := D) (ci := 6) (v := .ref (a1 7)) (C := R_Md) (T := F_Md) (N := 31) hx hb hts iw_Md hown hK.1 hP 0 rfl rfl 9 (by decide) (hts _ mw_436) (fun _ h => h) rfl d_Md_route_33 ?_
          refine lv_iload_n hx hb d_Md_route_36 rfl (lv_at hl 2 rfl) ?_
          obtain ⟨hin, hw⟩ := hw
          refine va_iald (f := (mmd_configuration u6)) hx hb hK.1 hP 7 0 rfl rfl hin d_Md_route_37 ?_
          refine lv_aload_n hx hb d_Md_route_38 rfl (lv_at hl 0 rfl) ?_
          refine va_get (D := D) (ci := 6) (v := .int (mmd_router u6)) (C := R_Md) (T := F_Md) (N := 31) hx hb hts iw_Md hown hK.1 hP 0 rfl rfl 6 (by decide) (hts _ mw_433) (fun _ h => h) rfl d_Md_route_39 ?_
          refine lv_icmp_ge (tgt := 47) hx hb d_Md_route_42 (by first | rfl | decide) (fun h8 => ?_) (fun h8 => ?_)
          · have hw := hw.1 h8
            refine lv_aload_n hx hb d_Md_route_47 rfl (lv_at hl 0 rfl) ?_
            refine va_get (D := D) (ci := 6) (v := .ref (a1 7)) (C := R_Md) (T := F_Md) (N := 31) hx hb hts iw_Md hown hK.1 hP 0 rfl rfl 9 (by decide) (hts _ mw_436) (fun _ h => h) rfl d_Md_route_48 ?_
            refine lv_iload_n hx hb d_Md_route_51 rfl (lv_at hl 2 rfl) ?_
            obtain ⟨hin, hw⟩ := hw
            refine va_iald (f := (mmd_configuration u6)) hx hb hK.1 hP 7 0 rfl rfl hin d_Md_route_52 ?_
            refine lv_aload_n hx hb d_Md_route_53 rfl (lv_at hl 0 rfl) ?_
            refine va_get (D := D) (ci := 6) (v := .int (mmd_router u6)) (C := R_Md) (T := F_Md) (N := 31) hx hb hts iw_Md hown hK.1 hP 0 rfl rfl 6 (by decide) (hts _ mw_433) (fun _ h => h) rfl d_Md_route_54 ?_
            refine lv_icmp_le (tgt := 72) hx hb d_Md_route_57 (by first | rfl | decide) (fun h9 => ?_) (fun h9 => ?_)
            · have hw := hw.1 h9
              refine lv_aload_n hx hb d_Md_route_72 rfl (lv_at hl 0 rfl) ?_
              refine lv_iload_n hx hb d_Md_route_73 rfl (lv_at hl 2 rfl) ?_
              refine km_cv (wr := []) (km_rV (n := 1) hE kmG (c_Md_replayOf l D cI cN cZ a1 u6 x2 _ hw) mw_543 mw_540 mw_542 mp_30 mw_8 (by decide) ⟨rfl, rfl, ⟨by decide, by decide⟩, by decide, by decide⟩ hK (km_cut hP [0, 1, 2, 3, 4, 5, 6, 7, 8, 9, 10, 11, 12, 13, 14, 15, 16, 17, 18, 19, 20, 21, 22, 23, 24, 25] rfl) (hD.sub [0, 1, 2, 3, 4, 5, 6, 7, 8, 9, 10, 11, 12, 13, 14, 15, 16, 17, 18, 19, 20, 21, 22, 23, 24, 25] (by decide) rfl) (ci := 6) rfl hP (q0 := 0) rfl rfl hl.1 rfl (Nat.le_of_ble_eq_true rfl) d_Md_route_74) hP hD hS hA [0, 1, 2, 3, 4, 5, 6, 7, 8, 9, 10, 11, 12, 13, 14, 15, 16, 17, 18, 19, 20, 21, 22, 23, 24, 25] [] rfl rfl (by decide) (by decide) (fun u11 H locs hw hP hD hS => ?_)
              have hP : va_P D kmC (mmdW cI cN cZ a1 u11) H := hP
              have hD : va_D A (mmdW cI cN cZ a1 u11) := hD
              refine lv_aload_n hx hb d_Md_route_77 rfl (lv_at hl 0 rfl) ?_
              refine va_get (D := D) (ci := 6) (v := .ref (a1 24)) (C := R_Md) (T := F_Md) (N := 31) hx hb hts iw_Md hown hK.1 hP 0 rfl rfl 26 (by decide) (hts _ mw_453) (fun _ h => h) rfl d_Md_route_78 ?_
              refine lv_iload_n hx hb d_Md_route_81 rfl (lv_at hl 1 rfl) ?_
              obtain ⟨hin, hw⟩ := hw
              refine va_zald (f := (mmd_done u11)) hx hb hK.1 hP 24 2 rfl rfl hin d_Md_route_82 ?_
              refine lv_if_eq (tgt := 93) hx hb d_Md_route_83 (by first | rfl | decide) (fun h12 => ?_) (fun h12 => ?_)
              · have hw := hw.1 h12
                refine lv_aload_n hx hb d_Md_route_93 rfl (lv_at hl 0 rfl) ?_
                refine va_get (D := D) (ci := 6) (v := .int (mmd_members u11)) (C := R_Md) (T := F_Md) (N := 31) hx hb hts iw_Md hown hK.1 hP 0 rfl rfl 28 (by decide) (hts _ mw_455) (fun _ h => h) rfl d_Md_route_94 ?_
                refine lv_iload_n hx hb d_Md_route_97 rfl (lv_at hl 2 rfl) ?_
                refine lv_ishr hx hb d_Md_route_98 ?_
                refine lv_iconst (v := (1 : Int32)) hx hb d_Md_route_99 (by decide) ?_
                refine lv_iand hx hb d_Md_route_100 ?_
                refine lv_if_ne (tgt := 106) hx hb d_Md_route_101 (by first | rfl | decide) (fun h13 => ?_) (fun h13 => ?_)
                · have hw := hw.2 h13
                  refine lv_aload_n hx hb d_Md_route_106 rfl (lv_at hl 0 rfl) ?_
                  refine va_get (D := D) (ci := 6) (v := .ref (a1 12)) (C := R_Md) (T := F_Md) (N := 31) hx hb hts iw_Md hown hK.1 hP 0 rfl rfl 14 (by decide) (hts _ mw_441) (fun _ h => h) rfl d_Md_route_107 ?_
                  refine lv_iload_n hx hb d_Md_route_110 rfl (lv_at hl 2 rfl) ?_
                  refine lv_iload_n hx hb d_Md_route_111 rfl (lv_at hl 1 rfl) ?_
                  obtain ⟨hin, hw⟩ := hw
                  refine va_iast (f := (mmd_pending u11)) hx hb hK.1 hP hD hS 12 0 rfl rfl hin d_Md_route_112 (fun H locs hP hD hS => ?_)
                  have hP := (congrArg (fun w => va_P D kmC w H) (sw_mmd_s_pending cI cN cZ a1 u11 (upd (mmd_pending u11) (x2).toNatClampNeg x1))).mp hP
                  have hD := (congrArg (va_D A) (sw_mmd_s_pending cI cN cZ a1 u11 (upd (mmd_pending u11) (x2).toNatClampNeg x1))).mp hD
                  obtain ⟨w14, ew14⟩ : ∃ z : MmdT, z = mmd_s_pending u11 (upd (mmd_pending u11) (x2).toNatClampNeg x1) := ⟨_, rfl⟩
                  rw [← ew14] at hP hD
                  have hw := hw w14 ew14
                  refine lv_iconst (v := (2 : Int32)) hx hb d_Md_route_113 (by decide) ?_
                  exact W.iret (v := (2 : Int32)) hx hb hr (fun t ht hW => ⟨⟨(2 : Int32), w14, rfl, hw, by rw [ht]; exact hP, hD⟩, hS.F ht⟩) hS.2.2 d_Md_route_114
                · have hw := hw.1 h13
                  refine lv_iconst (v := (3 : Int32)) hx hb d_Md_route_104 (by decide) ?_
                  exact W.iret (v := (3 : Int32)) hx hb hr (fun t ht hW => ⟨⟨(3 : Int32), u11, rfl, hw, by rw [ht]; exact hP, hD⟩, hS.F ht⟩) hS.2.2 d_Md_route_105
              · have hw := hw.2 h12
                refine lv_aload_n hx hb d_Md_route_86 rfl (lv_at hl 0 rfl) ?_
                refine lv_iload_n hx hb d_Md_route_87 rfl (lv_at hl 1 rfl) ?_
                refine km_cv (wr := []) (km_rV (n := 1) hE kmG (c_Md_hear l D cI cN cZ a1 u11 x1 _ hw) mw_555 mw_552 mw_554 mp_33 mw_8 (by decide) ⟨rfl, rfl, ⟨by decide, by decide⟩, by decide, by decide⟩ hK (km_cut hP [0, 1, 2, 3, 4, 5, 6, 7, 8, 9, 10, 11, 12, 13, 14, 15, 16, 17, 18, 19, 20, 21, 22, 23, 24, 25] rfl) (hD.sub [0, 1, 2, 3, 4, 5, 6, 7, 8, 9, 10, 11, 12, 13, 14, 15, 16, 17, 18, 19, 20, 21, 22, 23, 24, 25] (by decide) rfl) (ci := 6) rfl hP (q0 := 0) rfl rfl hl.1 rfl (Nat.le_of_ble_eq_true rfl) d_Md_route_88) hP hD hS hA [0, 1, 2, 3, 4, 5, 6, 7, 8, 9, 10, 11, 12, 13, 14, 15, 16, 17, 18, 19, 20, 21, 22, 23, 24, 25] [] rfl rfl (by decide) (by decide) (fun u16 H locs hw hP hD hS => ?_)
                have hP : va_P D kmC (mmdW cI cN cZ a1 u16) H := hP
                have hD : va_D A (mmdW cI cN cZ a1 u16) := hD
                refine lv_iconst (v := (1 : Int32)) hx hb d_Md_route_91 (by decide) ?_
                exact W.iret (v := (1 : Int32)) hx hb hr (fun t ht hW => ⟨⟨(1 : Int32), u16, rfl, hw, by rw [ht]; exact hP, hD⟩, hS.F ht⟩) hS.2.2 d_Md_route_92
            · have hw := hw.2 h9
              refine lv_aload_n hx hb d_Md_route_60 rfl (lv_at hl 0 rfl) ?_
              refine lv_aload_n hx hb d_Md_route_61 rfl (lv_at hl 0 rfl) ?_
              refine va_get (D := D) (ci := 6) (v := .ref (a1 7)) (C := R_Md) (T := F_Md) (N := 31) hx hb hts iw_Md hown hK.1 hP 0 rfl rfl 9 (by decide) (hts _ mw_436) (fun _ h => h) rfl d_Md_route_62 ?_
              refine lv_iload_n hx hb d_Md_route_65 rfl (lv_at hl 2 rfl) ?_
              obtain ⟨hin, hw⟩ := hw
              refine va_iald (f := (mmd_configuration u6)) hx hb hK.1 hP 7 0 rfl rfl hin d_Md_route_66 ?_
              refine va_put (D := D) (ci := 6) (v := .int ((mmd_configuration u6) (x2).toNatClampNeg)) (ty := .int) (C := R_Md) (T := F_Md) (N := 31) hx hb hts iw_Md t_Md t_Md_ok n_Md hown hK.1 hP hD hS 0 rfl rfl 6 (by decide) (hts _ mw_433) (fun _ h => h) rfl (t_Md_ok 6 (by decide)) rfl rfl (Nat.le_of_ble_eq_true rfl) d_Md_route_67 (fun H locs hP hD hS => ?_)
              have hP := (congrArg (fun w => va_P D kmC w H) (sw_mmd_s_router cI cN cZ a1 u6 ((mmd_configuration u6) (x2).toNatClampNeg))).mp hP
              have hD := (congrArg (va_D A) (sw_mmd_s_router cI cN cZ a1 u6 ((mmd_configuration u6) (x2).toNatClampNeg))).mp hD
              obtain ⟨w17, ew17⟩ : ∃ z : MmdT, z = mmd_s_router u6 ((mmd_configuration u6) (x2).toNatClampNeg) := ⟨_, rfl⟩
              rw [← ew17] at hP hD
              have hw := hw w17 ew17
              refine lv_iconst (v := (5 : Int32)) hx hb d_Md_route_70 (by decide) ?_
              exact W.iret (v := (5 : Int32)) hx hb hr (fun t ht hW => ⟨⟨(5 : Int32), w17, rfl, hw, by rw [ht]; exact hP, hD⟩, hS.F ht⟩) hS.2.2 d_Md_route_71
          · have hw := hw.2 h8
            refine lv_iconst (v := (4 : Int32)) hx hb d_Md_route_45 (by decide) ?_
            exact W.iret (v := (4 : Int32)) hx hb hr (fun t ht hW => ⟨⟨(4 : Int32), u6, rfl, hw, by rw [ht]; exact hP, hD⟩, hS.F ht⟩) hS.2.2 d_Md_route_46
        · have hw := hw.1 h7
          refine lv_iconst (v := (0 : Int32)) hx hb d_Md_route_30 (by decide) ?_
          exact W.iret (v := (0 : Int32)) hx hb hr (fun t ht hW => ⟨⟨(0 : Int32), u6, rfl, hw, by rw [ht]; exact hP, hD⟩, hS.F ht⟩) hS.2.2 d_Md_route_31
      · have hw := hw.1 h4
        refine lv_iconst (v := (-1 : Int32)) hx hb d_Md_route_20 (by decide) ?_
        exact W.iret (v := (-1 : Int32)) hx hb hr (fun t ht hW => ⟨⟨(-1 : Int32), z1, rfl, hw, by rw [ht]; exact hP, hD⟩, hS.F ht⟩) hS.2.2 d_Md_route_21
set_option maxHeartbeats 4000000 in
set_option maxRecDepth 100000 in
theorem c_Md_router (l : Launch) (D : va_G) (cI cN cZ : ClassId) (a1 : Nat → Nat) (z1 : MmdT) (post : Int32 → MmdT → Prop) (hw : wp_Md_router z1 post) : km_I l y_Md_router (.code y_Md_router b_Md_router 1 (some .int) :: kmW) rm_Md_router D kmC (kmT cI cN cZ) kmF kmM [.ref (a1 0)] (mmdW cI cN cZ a1 z1) (fun (r : Int32) (u : MmdT) => post r u) (fun (u : MmdT) => (mmdW cI cN cZ a1 u)) 0 0 := by
  refine km_startI (cc := b_Md_router) (maxL := 1) (ret := (some .int)) (by decide) rfl (Nat.le_of_ble_eq_true rfl) ?_
  intro p e s m below meth c A ls hE hA hK hP hD hS hl
  obtain ⟨hx, hb, hr, hml, hown, hts0, hlk, hnm⟩ := id hE
  have hts : ∀ w ∈ kmW, w.before ([.ref (a1 0)] : List Value).toArray s = true := fun w h => hts0 w (List.mem_cons_of_mem _ h)
  have hP : va_P D kmC (mmdW cI cN cZ a1 z1) s.heap := hP
  have hl : lv_has ls 1 [(0, .ref (a1 0))] := hl
  unfold wp_Md_router at hw
  refine lv_aload_n hx hb d_Md_router_0 rfl (lv_at hl 0 rfl) ?_
  refine va_get (D := D) (ci := 6) (v := .int (mmd_router z1)) (C := R_Md) (T := F_Md) (N := 31) hx hb hts iw_Md hown hK.1 hP 0 rfl rfl 6 (by decide) (hts _ mw_433) (fun _ h => h) rfl d_Md_router_1 ?_
  exact W.iret (v := (mmd_router z1)) hx hb hr (fun t ht hW => ⟨⟨(mmd_router z1), z1, rfl, hw, by rw [ht]; exact hP, hD⟩, hS.F ht⟩) hS.2.2 d_Md_router_4
set_option maxHeartbeats 4000000 in
set_option maxRecDepth 100000 in
theorem c_Md_start (l : Launch) (D : va_G) (cI cN cZ : ClassId) (a1 : Nat → Nat) (z1 : MmdT) (x1 : Int32) (x2 : Int32) (post : Int32 → MmdT → Prop) (hw : wp_Md_start z1 x1 x2 post) : km_I l y_Md_start (.code y_Md_start b_Md_start 6 (some .int) :: kmW) rm_Md_start D kmC (kmT cI cN cZ) kmF kmM [.ref (a1 0), .int x1, .int x2] (mmdW cI cN cZ a1 z1) (fun (r : Int32) (u : MmdT) => post r u) (fun (u : MmdT) => (mmdW cI cN cZ a1 u)) 0 0 := by
  refine km_startI (cc := b_Md_start) (maxL := 6) (ret := (some .int)) (by decide) rfl (Nat.le_of_ble_eq_true rfl) ?_
  intro p e s m below meth c A ls hE hA hK hP hD hS hl
  obtain ⟨hx, hb, hr, hml, hown, hts0, hlk, hnm⟩ := id hE
  have hts : ∀ w ∈ kmW, w.before ([.ref (a1 0), .int x1, .int x2] : List Value).toArray s = true := fun w h => hts0 w (List.mem_cons_of_mem _ h)
  have hP : va_P D kmC (mmdW cI cN cZ a1 z1) s.heap := hP
  have hl : lv_has ls 6 [(0, .ref (a1 0)), (1, .int x1), (2, .int x2)] := hl
  unfold wp_Md_start at hw
  refine lv_iload_n hx hb d_Md_start_0 rfl (lv_at hl 1 rfl) ?_
  refine km_ci (wr := [(a1 0, .inr (6, [.int (mmd_requests z1), .ref (a1 1), .ref (a1 2), .ref (a1 3), .ref (a1 4), .ref (a1 5), .int (mmd_router z1), .ref (a1 6), .int (mmd_up z1), .ref (a1 7), .ref (a1 8), .ref (a1 9), .ref (a1 10), .ref (a1 11), .ref (a1 12), .ref (a1 13), .ref (a1 14), .ref (a1 15), .ref (a1 16), .ref (a1 17), .ref (a1 18), .ref (a1 19), .ref (a1 20), .ref (a1 21), .ref (a1 22), .ref (a1 23), .ref (a1 24), .ref (a1 25), .int (mmd_members z1), .int (mmd_atC z1), .int (mmd_atE z1)])), (a1 1, .inl (cI, 31, .inl (mmd_kindOf z1))), (a1 2, .inl (cI, 31, .inl (mmd_keyOf z1))), (a1 3, .inl (cI, 31, .inl (mmd_numberOf z1))), (a1 4, .inl (cI, 31, .inl (mmd_heardOf z1))), (a1 5, .inl (cI, 31, .inl (mmd_replyOf z1))), (a1 6, .inl (cI, 45, .inl (mmd_decided z1))), (a1 7, .inl (cI, 6, .inl (mmd_configuration z1))), (a1 8, .inl (cI, 6, .inl (mmd_executed z1))), (a1 9, .inl (cI, 6, .inl (mmd_known z1))), (a1 10, .inl (cI, 6, .inl (mmd_last z1))), (a1 11, .inl (cI, 6, .inl (mmd_retired z1))), (a1 12, .inl (cI, 6, .inl (mmd_pending z1))), (a1 13, .inl (cI, 270, .inl (mmd_promised z1))), (a1 14, .inl (cI, 270, .inl (mmd_voteBallot z1))), (a1 15, .inl (cI, 270, .inl (mmd_voteCommand z1))), (a1 16, .inl (cI, 6, .inl (mmd_slot z1))), (a1 17, .inl (cI, 6, .inl (mmd_ballot z1))), (a1 18, .inl (cI, 6, .inl (mmd_promisers z1))), (a1 19, .inl (cI, 6, .inl (mmd_voters z1))), (a1 20, .inl (cI, 6, .inl (mmd_bestBallot z1))), (a1 21, .inl (cI, 6, .inl (mmd_bestCommand z1))), (a1 22, .inl (cI, 6, .inl (mmd_command z1))), (a1 23, .inl (cI, 4, .inl (mmd_values z1))), (a1 24, .inl (cZ, 31, .inl (mmd_done z1))), (a1 25, .inl (cI, 31, .inl (mmd_answers z1)))]) (km_rS (n := 1) hE kmG (c_Md_node l D cI cN cZ x1 _ hw) mw_535 mw_533 mw_534 mw_8 (by decide) ⟨rfl, rfl, ⟨by decide, by decide⟩, by decide, by decide⟩ hK (km_cut hP [] rfl) (hD.sub [] (by decide) rfl) rfl hl.1 rfl (Nat.le_of_ble_eq_true rfl) d_Md_start_1) hP hD hS hA [] [0, 1, 2, 3, 4, 5, 6, 7, 8, 9, 10, 11, 12, 13, 14, 15, 16, 17, 18, 19, 20, 21, 22, 23, 24, 25] rfl rfl (by decide) (by decide) (fun r1 _ H locs hw hP hD hS => ?_)
  have hP := hP.sub (ws' := (mmdW cI cN cZ a1 z1)) [0, 1, 2, 3, 4, 5, 6, 7, 8, 9, 10, 11, 12, 13, 14, 15, 16, 17, 18, 19, 20, 21, 22, 23, 24, 25] rfl
  have hD := hD.sub (ws' := (mmdW cI cN cZ a1 z1)) [0, 1, 2, 3, 4, 5, 6, 7, 8, 9, 10, 11, 12, 13, 14, 15, 16, 17, 18, 19, 20, 21, 22, 23, 24, 25] (by decide) rfl
  refine lv_if_ne (tgt := 9) hx hb d_Md_start_4 (by first | rfl | decide) (fun h2 => ?_) (fun h2 => ?_)
  · have hw := hw.2 h2
    refine lv_aload_n hx hb d_Md_start_9 rfl (lv_at hl 0 rfl) ?_
    refine va_get (D := D) (ci := 6) (v := .ref (a1 8)) (C := R_Md) (T := F_Md) (N := 31) hx hb hts iw_Md hown hK.1 hP 0 rfl rfl 10 (by decide) (hts _ mw_437) (fun _ h => h) rfl d_Md_start_10 ?_
    refine lv_iload_n hx hb d_Md_start_13 rfl (lv_at hl 1 rfl) ?_
    obtain ⟨hin, hw⟩ := hw
    refine va_iald (f := (mmd_executed z1)) hx hb hK.1 hP 8 0 rfl rfl hin d_Md_start_14 ?_
    refine lv_topi (fun v3 ev3 => ?_)
    have hw := hw v3 ev3
    refine lv_istore_n (lv' := [(3, .int v3), (0, .ref (a1 0)), (1, .int x1), (2, .int x2)]) hx hb d_Md_start_15 rfl hl (by decide) rfl (fun ls hl => ?_)
    refine lv_aload_n hx hb d_Md_start_16 rfl (lv_at hl 1 rfl) ?_
    refine lv_iload_n hx hb d_Md_start_17 rfl (lv_at hl 2 rfl) ?_
    refine km_ci (wr := []) (km_rV (n := 1) hE kmG (c_Md_isUp l D cI cN cZ a1 z1 x1 _ hw) mw_539 mw_536 mw_538 mp_29 mw_8 (by decide) ⟨rfl, rfl, ⟨by decide, by decide⟩, by decide, by decide⟩ hK (km_cut hP [0, 1, 2, 3, 4, 5, 6, 7, 8, 9, 10, 11, 12, 13, 14, 15, 16, 17, 18, 19, 20, 21, 22, 23, 24, 25] rfl) (hD.sub [0, 1, 2, 3, 4, 5, 6, 7, 8, 9, 10, 11, 12, 13, 14, 15, 16, 17, 18, 19, 20, 21, 22, 23, 24, 25] (by decide) rfl) (ci := 6) rfl hP (q0 := 0) rfl rfl hl.1 rfl (Nat.le_of_ble_eq_true rfl) d_Md_start_18) hP hD hS hA [0, 1, 2, 3, 4, 5, 6, 7, 8, 9, 10, 11, 12, 13, 14, 15, 16, 17, 18, 19, 20, 21, 22, 23, 24, 25] [] rfl rfl (by decide) (by decide) (fun r4 u5 H locs hw hP hD hS => ?_)
    have hP : va_P D kmC (mmdW cI cN cZ a1 u5) H := hP
    have hD : va_D A (mmdW cI cN cZ a1 u5) := hD
    refine lv_if_eq (tgt := 51) hx hb d_Md_start_21 (by first | rfl | decide) (fun h6 => ?_) (fun h6 => ?_)
    · have hw := hw.1 h6
      refine lv_iconst (v := (0 : Int32)) hx hb d_Md_start_51 (by decide) ?_
      exact W.iret (v := (0 : Int32)) hx hb hr (fun t ht hW => ⟨⟨(0 : Int32), u5, rfl, hw, by rw [ht]; exact hP, hD⟩, hS.F ht⟩) hS.2.2 d_Md_start_52
    · have hw := hw.2 h6
      refine lv_iload_n hx hb d_Md_start_24 rfl (lv_at hl 3 rfl) ?_
      refine lv_iload_n hx hb d_Md_start_25 rfl (lv_at hl 0 rfl) ?_
      refine lv_icmp_le (tgt := 51) hx hb d_Md_start_26 (by first | rfl | decide) (fun h7 => ?_) (fun h7 => ?_)
      · have hw := hw.1 h7
        refine lv_iconst (v := (0 : Int32)) hx hb d_Md_start_51 (by decide) ?_
        exact W.iret (v := (0 : Int32)) hx hb hr (fun t ht hW => ⟨⟨(0 : Int32), u5, rfl, hw, by rw [ht]; exact hP, hD⟩, hS.F ht⟩) hS.2.2 d_Md_start_52
      · have hw := hw.2 h7
        refine lv_iload_n hx hb d_Md_start_29 rfl (lv_at hl 3 rfl) ?_
        refine lv_iload_n hx hb d_Md_start_30 rfl (lv_at hl 0 rfl) ?_
        refine lv_iconst (v := (2 : Int32)) hx hb d_Md_start_31 (by decide) ?_
        refine lv_iadd hx hb d_Md_start_32 ?_
        refine lv_icmp_gt (tgt := 51) hx hb d_Md_start_33 (by first | rfl | decide) (fun h8 => ?_) (fun h8 => ?_)
        · have hw := hw.1 h8
          refine lv_iconst (v := (0 : Int32)) hx hb d_Md_start_51 (by decide) ?_
          exact W.iret (v := (0 : Int32)) hx hb hr (fun t ht hW => ⟨⟨(0 : Int32), u5, rfl, hw, by rw [ht]; exact hP, hD⟩, hS.F ht⟩) hS.2.2 d_Md_start_52
        · have hw := hw.2 h8
          refine lv_iload_n hx hb d_Md_start_36 rfl (lv_at hl 3 rfl) ?_
          refine lv_bipush (v := (8 : Int32)) hx hb d_Md_start_37 (by decide) ?_
          refine lv_icmp_gt (tgt := 51) hx hb d_Md_start_39 (by first | rfl | decide) (fun h9 => ?_) (fun h9 => ?_)
          · have hw := hw.1 h9
            refine lv_iconst (v := (0 : Int32)) hx hb d_Md_start_51 (by decide) ?_
            exact W.iret (v := (0 : Int32)) hx hb hr (fun t ht hW => ⟨⟨(0 : Int32), u5, rfl, hw, by rw [ht]; exact hP, hD⟩, hS.F ht⟩) hS.2.2 d_Md_start_52
          · have hw := hw.2 h9
            refine lv_aload_n hx hb d_Md_start_42 rfl (lv_at hl 1 rfl) ?_
            refine lv_iload_n hx hb d_Md_start_43 rfl (lv_at hl 2 rfl) ?_
            refine lv_iload_n hx hb d_Md_start_44 rfl (lv_at hl 3 rfl) ?_
            refine km_ci (wr := []) (km_rV (n := 2) hE kmG (c_Md_knows l D cI cN cZ a1 u5 x1 x2 _ hw) mw_567 mw_564 mw_566 mp_34 mw_8 (by decide) ⟨rfl, rfl, ⟨by decide, by decide⟩, by decide, by decide⟩ hK (km_cut hP [0, 1, 2, 3, 4, 5, 6, 7, 8, 9, 10, 11, 12, 13, 14, 15, 16, 17, 18, 19, 20, 21, 22, 23, 24, 25] rfl) (hD.sub [0, 1, 2, 3, 4, 5, 6, 7, 8, 9, 10, 11, 12, 13, 14, 15, 16, 17, 18, 19, 20, 21, 22, 23, 24, 25] (by decide) rfl) (ci := 6) rfl hP (q0 := 0) rfl rfl hl.1 rfl (Nat.le_of_ble_eq_true rfl) d_Md_start_45) hP hD hS hA [0, 1, 2, 3, 4, 5, 6, 7, 8, 9, 10, 11, 12, 13, 14, 15, 16, 17, 18, 19, 20, 21, 22, 23, 24, 25] [] rfl rfl (by decide) (by decide) (fun r10 u11 H locs hw hP hD hS => ?_)
            have hP : va_P D kmC (mmdW cI cN cZ a1 u11) H := hP
            have hD : va_D A (mmdW cI cN cZ a1 u11) := hD
            refine lv_if_eq (tgt := 53) hx hb d_Md_start_48 (by first | rfl | decide) (fun h12 => ?_) (fun h12 => ?_)
            · have hw := hw.1 h12
              refine lv_bipush (v := (6 : Int32)) hx hb d_Md_start_53 (by decide) ?_
              refine lv_iload_n hx hb d_Md_start_55 rfl (lv_at hl 2 rfl) ?_
              refine lv_iadd hx hb d_Md_start_56 ?_
              refine lv_topi (fun v13 ev13 => ?_)
              have hw := hw v13 ev13
              refine lv_istore (lv' := [(4, .int v13), (3, .int v3), (0, .ref (a1 0)), (1, .int x1), (2, .int x2)]) hx hb d_Md_start_57 hl (by decide) rfl (fun ls hl => ?_)
              refine lv_iconst (v := (0 : Int32)) hx hb d_Md_start_59 (by decide) ?_
              refine lv_istore (lv' := [(5, .int (0 : Int32)), (4, .int v13), (3, .int v3), (0, .ref (a1 0)), (1, .int x1), (2, .int x2)]) hx hb d_Md_start_60 hl (by decide) rfl (fun ls hl => ?_)
              have key62 : ∀ (K62 : Int32 → Int32 → Int32 → Int32 → MmdT → Prop) (hk62 : ∀ (y1 : Int32) (y2 : Int32) (y4 : Int32) (y5 : Int32) (z1 : MmdT) (ls : Array Slot) (H : Heap) (locs : List Loc), K62 y1 y2 y4 y5 z1 → lv_has ls 6 [(1, .int y1), (2, .int y2), (4, .int y4), (5, .int y5), (0, .ref (a1 0))] → va_P D kmC (mmdW cI cN cZ a1 z1) H → va_D A (mmdW cI cN cZ a1 z1) → va_S A s.heap H locs → W p l e rm_Md_start s m ([.ref (a1 0), .int x1, .int x2] : List Value).toArray below meth c H locs 0 0 (MQ below (va_Qi (fun (r : Int32) (u : MmdT) => post r u) (km_B D kmC A (fun (u : MmdT) => (mmdW cI cN cZ a1 u))) A) ([.ref (a1 0), .int x1, .int x2] : List Value).toArray s 0 0 A) (F0 m 89 ls [])) (n62 : Nat), ∀ (y1 : Int32) (y2 : Int32) (y4 : Int32) (y5 : Int32) (z1 : MmdT) (ls : Array Slot) (H : Heap) (locs : List Loc), wp_Md_start_L62 K62 n62 y1 y2 y4 y5 z1 → lv_has ls 6 [(1, .int y1), (2, .int y2), (4, .int y4), (5, .int y5), (0, .ref (a1 0))] → va_P D kmC (mmdW cI cN cZ a1 z1) H → va_D A (mmdW cI cN cZ a1 z1) → va_S A s.heap H locs → W p l e rm_Md_start s m ([.ref (a1 0), .int x1, .int x2] : List Value).toArray below meth c H locs 0 0 (MQ below (va_Qi (fun (r : Int32) (u : MmdT) => post r u) (km_B D kmC A (fun (u : MmdT) => (mmdW cI cN cZ a1 u))) A) ([.ref (a1 0), .int x1, .int x2] : List Value).toArray s 0 0 A) (F0 m 62 ls []) := by
                intro K62 hk62 n62
                induction n62 with
                | zero => intro y1 y2 y4 y5 z1 ls H locs hw; exact hw.elim
                | succ n62 ih62 =>
                  intro y1 y2 y4 y5 z1 ls H locs hw hl hP hD hS
                  refine lv_iload hx hb d_Md_start_62 (lv_at hl 3 rfl) ?_
                  refine lv_ldc (v := (100000 : Int32)) hx hb hown (hts _ mw_568) d_Md_start_64 ?_
                  refine lv_icmp_ge (tgt := 89) hx hb d_Md_start_66 (by first | rfl | decide) (fun h14 => ?_) (fun h14 => ?_)
                  · have hw := hw.1 h14
                    exact hk62 y1 y2 y4 y5 z1 ls H locs hw (lv_sub hl [0, 1, 2, 3, 4] rfl) hP hD hS
                  · have hw := hw.2 h14
                    refine lv_iload hx hb d_Md_start_69 (lv_at hl 2 rfl) ?_
                    refine lv_aload_n hx hb d_Md_start_71 rfl (lv_at hl 4 rfl) ?_
                    refine va_get (D := D) (ci := 6) (v := .ref (a1 10)) (C := R_Md) (T := F_Md) (N := 31) hx hb hts iw_Md hown hK.1 hP 0 rfl rfl 12 (by decide) (hts _ mw_439) (fun _ h => h) rfl d_Md_start_72 ?_
                    refine lv_iload_n hx hb d_Md_start_75 rfl (lv_at hl 0 rfl) ?_
                    obtain ⟨hin, hw⟩ := hw
                    refine va_iald (f := (mmd_last z1)) hx hb hK.1 hP 10 0 rfl rfl hin d_Md_start_76 ?_
                    refine lv_icmp_gt (tgt := 89) hx hb d_Md_start_77 (by first | rfl | decide) (fun h15 => ?_) (fun h15 => ?_)
                    · have hw := hw.1 h15
                      exact hk62 y1 y2 y4 y5 z1 ls H locs hw (lv_sub hl [0, 1, 2, 3, 4] rfl) hP hD hS
                    · have hw := hw.2 h15
                      obtain ⟨v16, ev16⟩ : ∃ z : Int32, z = (y4 + (6 : Int32)) := ⟨_, rfl⟩
                      have hw := hw v16 ev16
                      refine lv_iinc (v := v16) (lv' := [(4, .int v16), (1, .int y1), (2, .int y2), (5, .int y5), (0, .ref (a1 0))]) hx hb d_Md_start_80 hl (k := 2) rfl ev16.symm (by decide) rfl (fun ls hl => ?_)
                      obtain ⟨v17, ev17⟩ : ∃ z : Int32, z = (y5 + (1 : Int32)) := ⟨_, rfl⟩
                      have hw := hw v17 ev17
                      refine lv_iinc (v := v17) (lv' := [(5, .int v17), (4, .int v16), (1, .int y1), (2, .int y2), (0, .ref (a1 0))]) hx hb d_Md_start_83 hl (k := 3) rfl ev17.symm (by decide) rfl (fun ls hl => ?_)
                      refine lv_goto (tgt := 62) hx hb d_Md_start_86 (by first | rfl | decide) ?_
                      exact ih62 y1 y2 v16 v17 z1 ls H locs hw (lv_sub hl [2, 3, 1, 0, 4] rfl) hP hD hS
              obtain ⟨n62, hw⟩ := hw
              refine key62 _ (fun y1 y2 y4 y5 z1 ls H locs hw hl hP hD hS => ?_) n62 x1 x2 v13 (0 : Int32) u11 ls H locs hw (lv_sub hl [4, 5, 1, 0, 3] rfl) hP hD hS
              refine lv_aload_n hx hb d_Md_start_89 rfl (lv_at hl 4 rfl) ?_
              refine va_get (D := D) (ci := 6) (v := .ref (a1 10)) (C := R_Md) (T := F_Md) (N := 31) hx hb hts iw_Md hown hK.1 hP 0 rfl rfl 12 (by decide) (hts _ mw_439) (fun _ h => h) rfl d_Md_start_90 ?_
              refine lv_iload_n hx hb d_Md_start_93 rfl (lv_at hl 0 rfl) ?_
              refine lv_iload hx hb d_Md_start_94 (lv_at hl 2 rfl) ?_
              obtain ⟨hin, hw⟩ := hw
              refine va_iast (f := (mmd_last z1)) hx hb hK.1 hP hD hS 10 0 rfl rfl hin d_Md_start_96 (fun H locs hP hD hS => ?_)
              have hP := (congrArg (fun w => va_P D kmC w H) (sw_mmd_s_last cI cN cZ a1 z1 (upd (mmd_last z1) (y1).toNatClampNeg y4))).mp hP
              have hD := (congrArg (va_D A) (sw_mmd_s_last cI cN cZ a1 z1 (upd (mmd_last z1) (y1).toNatClampNeg y4))).mp hD
              obtain ⟨w18, ew18⟩ : ∃ z : MmdT, z = mmd_s_last z1 (upd (mmd_last z1) (y1).toNatClampNeg y4) := ⟨_, rfl⟩
              rw [← ew18] at hP hD
              have hw := hw w18 ew18
              refine lv_aload_n hx hb d_Md_start_97 rfl (lv_at hl 4 rfl) ?_
              refine va_get (D := D) (ci := 6) (v := .ref (a1 16)) (C := R_Md) (T := F_Md) (N := 31) hx hb hts iw_Md hown hK.1 hP 0 rfl rfl 18 (by decide) (hts _ mw_445) (fun _ h => h) rfl d_Md_start_98 ?_
              refine lv_iload_n hx hb d_Md_start_101 rfl (lv_at hl 0 rfl) ?_
              refine lv_iload_n hx hb d_Md_start_102 rfl (lv_at hl 1 rfl) ?_
              obtain ⟨hin, hw⟩ := hw
              refine va_iast (f := (mmd_slot w18)) hx hb hK.1 hP hD hS 16 0 rfl rfl hin d_Md_start_103 (fun H locs hP hD hS => ?_)
              have hP := (congrArg (fun w => va_P D kmC w H) (sw_mmd_s_slot cI cN cZ a1 w18 (upd (mmd_slot w18) (y1).toNatClampNeg y2))).mp hP
              have hD := (congrArg (va_D A) (sw_mmd_s_slot cI cN cZ a1 w18 (upd (mmd_slot w18) (y1).toNatClampNeg y2))).mp hD
              obtain ⟨w19, ew19⟩ : ∃ z : MmdT, z = mmd_s_slot w18 (upd (mmd_slot w18) (y1).toNatClampNeg y2) := ⟨_, rfl⟩
              rw [← ew19] at hP hD
              have hw := hw w19 ew19
              refine lv_aload_n hx hb d_Md_start_104 rfl (lv_at hl 4 rfl) ?_
              refine va_get (D := D) (ci := 6) (v := .ref (a1 17)) (C := R_Md) (T := F_Md) (N := 31) hx hb hts iw_Md hown hK.1 hP 0 rfl rfl 19 (by decide) (hts _ mw_446) (fun _ h => h) rfl d_Md_start_105 ?_
              refine lv_iload_n hx hb d_Md_start_108 rfl (lv_at hl 0 rfl) ?_
              refine lv_iload hx hb d_Md_start_109 (lv_at hl 2 rfl) ?_
              obtain ⟨hin, hw⟩ := hw
              refine va_iast (f := (mmd_ballot w19)) hx hb hK.1 hP hD hS 17 0 rfl rfl hin d_Md_start_111 (fun H locs hP hD hS => ?_)
              have hP := (congrArg (fun w => va_P D kmC w H) (sw_mmd_s_ballot cI cN cZ a1 w19 (upd (mmd_ballot w19) (y1).toNatClampNeg y4))).mp hP
              have hD := (congrArg (va_D A) (sw_mmd_s_ballot cI cN cZ a1 w19 (upd (mmd_ballot w19) (y1).toNatClampNeg y4))).mp hD
              obtain ⟨w20, ew20⟩ : ∃ z : MmdT, z = mmd_s_ballot w19 (upd (mmd_ballot w19) (y1).toNatClampNeg y4) := ⟨_, rfl⟩
              rw [← ew20] at hP hD
              have hw := hw w20 ew20
              refine lv_aload_n hx hb d_Md_start_112 rfl (lv_at hl 4 rfl) ?_
              refine va_get (D := D) (ci := 6) (v := .ref (a1 18)) (C := R_Md) (T := F_Md) (N := 31) hx hb hts iw_Md hown hK.1 hP 0 rfl rfl 20 (by decide) (hts _ mw_447) (fun _ h => h) rfl d_Md_start_113 ?_
              refine lv_iload_n hx hb d_Md_start_116 rfl (lv_at hl 0 rfl) ?_
              refine lv_iconst (v := (0 : Int32)) hx hb d_Md_start_117 (by decide) ?_
              obtain ⟨hin, hw⟩ := hw
              refine va_iast (f := (mmd_promisers w20)) hx hb hK.1 hP hD hS 18 0 rfl rfl hin d_Md_start_118 (fun H locs hP hD hS => ?_)
              have hP := (congrArg (fun w => va_P D kmC w H) (sw_mmd_s_promisers cI cN cZ a1 w20 (upd (mmd_promisers w20) (y1).toNatClampNeg (0 : Int32)))).mp hP
              have hD := (congrArg (va_D A) (sw_mmd_s_promisers cI cN cZ a1 w20 (upd (mmd_promisers w20) (y1).toNatClampNeg (0 : Int32)))).mp hD
              obtain ⟨w21, ew21⟩ : ∃ z : MmdT, z = mmd_s_promisers w20 (upd (mmd_promisers w20) (y1).toNatClampNeg (0 : Int32)) := ⟨_, rfl⟩
              rw [← ew21] at hP hD
              have hw := hw w21 ew21
              refine lv_aload_n hx hb d_Md_start_119 rfl (lv_at hl 4 rfl) ?_
              refine va_get (D := D) (ci := 6) (v := .ref (a1 19)) (C := R_Md) (T := F_Md) (N := 31) hx hb hts iw_Md hown hK.1 hP 0 rfl rfl 21 (by decide) (hts _ mw_448) (fun _ h => h) rfl d_Md_start_120 ?_
              refine lv_iload_n hx hb d_Md_start_123 rfl (lv_at hl 0 rfl) ?_
              refine lv_iconst (v := (0 : Int32)) hx hb d_Md_start_124 (by decide) ?_
              obtain ⟨hin, hw⟩ := hw
              refine va_iast (f := (mmd_voters w21)) hx hb hK.1 hP hD hS 19 0 rfl rfl hin d_Md_start_125 (fun H locs hP hD hS => ?_)
              have hP := (congrArg (fun w => va_P D kmC w H) (sw_mmd_s_voters cI cN cZ a1 w21 (upd (mmd_voters w21) (y1).toNatClampNeg (0 : Int32)))).mp hP
              have hD := (congrArg (va_D A) (sw_mmd_s_voters cI cN cZ a1 w21 (upd (mmd_voters w21) (y1).toNatClampNeg (0 : Int32)))).mp hD
              obtain ⟨w22, ew22⟩ : ∃ z : MmdT, z = mmd_s_voters w21 (upd (mmd_voters w21) (y1).toNatClampNeg (0 : Int32)) := ⟨_, rfl⟩
              rw [← ew22] at hP hD
              have hw := hw w22 ew22
              refine lv_aload_n hx hb d_Md_start_126 rfl (lv_at hl 4 rfl) ?_
              refine va_get (D := D) (ci := 6) (v := .ref (a1 20)) (C := R_Md) (T := F_Md) (N := 31) hx hb hts iw_Md hown hK.1 hP 0 rfl rfl 22 (by decide) (hts _ mw_449) (fun _ h => h) rfl d_Md_start_127 ?_
              refine lv_iload_n hx hb d_Md_start_130 rfl (lv_at hl 0 rfl) ?_
              refine lv_iconst (v := (0 : Int32)) hx hb d_Md_start_131 (by decide) ?_
              obtain ⟨hin, hw⟩ := hw
              refine va_iast (f := (mmd_bestBallot w22)) hx hb hK.1 hP hD hS 20 0 rfl rfl hin d_Md_start_132 (fun H locs hP hD hS => ?_)
              have hP := (congrArg (fun w => va_P D kmC w H) (sw_mmd_s_bestBallot cI cN cZ a1 w22 (upd (mmd_bestBallot w22) (y1).toNatClampNeg (0 : Int32)))).mp hP
              have hD := (congrArg (va_D A) (sw_mmd_s_bestBallot cI cN cZ a1 w22 (upd (mmd_bestBallot w22) (y1).toNatClampNeg (0 : Int32)))).mp hD
              obtain ⟨w23, ew23⟩ : ∃ z : MmdT, z = mmd_s_bestBallot w22 (upd (mmd_bestBallot w22) (y1).toNatClampNeg (0 : Int32)) := ⟨_, rfl⟩
              rw [← ew23] at hP hD
              have hw := hw w23 ew23
              refine lv_aload_n hx hb d_Md_start_133 rfl (lv_at hl 4 rfl) ?_
              refine va_get (D := D) (ci := 6) (v := .ref (a1 21)) (C := R_Md) (T := F_Md) (N := 31) hx hb hts iw_Md hown hK.1 hP 0 rfl rfl 23 (by decide) (hts _ mw_450) (fun _ h => h) rfl d_Md_start_134 ?_
              refine lv_iload_n hx hb d_Md_start_137 rfl (lv_at hl 0 rfl) ?_
              refine lv_iconst (v := (0 : Int32)) hx hb d_Md_start_138 (by decide) ?_
              obtain ⟨hin, hw⟩ := hw
              refine va_iast (f := (mmd_bestCommand w23)) hx hb hK.1 hP hD hS 21 0 rfl rfl hin d_Md_start_139 (fun H locs hP hD hS => ?_)
              have hP := (congrArg (fun w => va_P D kmC w H) (sw_mmd_s_bestCommand cI cN cZ a1 w23 (upd (mmd_bestCommand w23) (y1).toNatClampNeg (0 : Int32)))).mp hP
              have hD := (congrArg (va_D A) (sw_mmd_s_bestCommand cI cN cZ a1 w23 (upd (mmd_bestCommand w23) (y1).toNatClampNeg (0 : Int32)))).mp hD
              obtain ⟨w24, ew24⟩ : ∃ z : MmdT, z = mmd_s_bestCommand w23 (upd (mmd_bestCommand w23) (y1).toNatClampNeg (0 : Int32)) := ⟨_, rfl⟩
              rw [← ew24] at hP hD
              have hw := hw w24 ew24
              refine lv_aload_n hx hb d_Md_start_140 rfl (lv_at hl 4 rfl) ?_
              refine va_get (D := D) (ci := 6) (v := .ref (a1 22)) (C := R_Md) (T := F_Md) (N := 31) hx hb hts iw_Md hown hK.1 hP 0 rfl rfl 24 (by decide) (hts _ mw_451) (fun _ h => h) rfl d_Md_start_141 ?_
              refine lv_iload_n hx hb d_Md_start_144 rfl (lv_at hl 0 rfl) ?_
              refine lv_iconst (v := (-1 : Int32)) hx hb d_Md_start_145 (by decide) ?_
              obtain ⟨hin, hw⟩ := hw
              refine va_iast (f := (mmd_command w24)) hx hb hK.1 hP hD hS 22 0 rfl rfl hin d_Md_start_146 (fun H locs hP hD hS => ?_)
              have hP := (congrArg (fun w => va_P D kmC w H) (sw_mmd_s_command cI cN cZ a1 w24 (upd (mmd_command w24) (y1).toNatClampNeg (-1 : Int32)))).mp hP
              have hD := (congrArg (va_D A) (sw_mmd_s_command cI cN cZ a1 w24 (upd (mmd_command w24) (y1).toNatClampNeg (-1 : Int32)))).mp hD
              obtain ⟨w25, ew25⟩ : ∃ z : MmdT, z = mmd_s_command w24 (upd (mmd_command w24) (y1).toNatClampNeg (-1 : Int32)) := ⟨_, rfl⟩
              rw [← ew25] at hP hD
              have hw := hw w25 ew25
              refine lv_iload hx hb d_Md_start_147 (lv_at hl 2 rfl) ?_
              exact W.iret (v := y4) hx hb hr (fun t ht hW => ⟨⟨y4, w25, rfl, hw, by rw [ht]; exact hP, hD⟩, hS.F ht⟩) hS.2.2 d_Md_start_149
            · have hw := hw.2 h12
              refine lv_iconst (v := (0 : Int32)) hx hb d_Md_start_51 (by decide) ?_
              exact W.iret (v := (0 : Int32)) hx hb hr (fun t ht hW => ⟨⟨(0 : Int32), u11, rfl, hw, by rw [ht]; exact hP, hD⟩, hS.F ht⟩) hS.2.2 d_Md_start_52
  · have hw := hw.1 h2
    refine lv_iconst (v := (-1 : Int32)) hx hb d_Md_start_7 (by decide) ?_
    exact W.iret (v := (-1 : Int32)) hx hb hr (fun t ht hW => ⟨⟨(-1 : Int32), z1, rfl, hw, by rw [ht]; exact hP, hD⟩, hS.F ht⟩) hS.2.2 d_Md_start_8
set_option maxHeartbeats 4000000 in
set_option maxRecDepth 100000 in
theorem c_Md_barred (l : Launch) (D : va_G) (cI cN cZ : ClassId) (a1 : Nat → Nat) (z1 : MmdT) (x1 : Int32) (x2 : Int32) (x3 : Int32) (post : Int32 → MmdT → Prop) (hw : wp_Md_barred z1 x1 x2 x3 post) : km_I l y_Md_barred (.code y_Md_barred b_Md_barred 4 (some .int) :: kmW) rm_Md_barred D kmC (kmT cI cN cZ) kmF kmM [.ref (a1 0), .int x1, .int x2, .int x3] (mmdW cI cN cZ a1 z1) (fun (r : Int32) (u : MmdT) => post r u) (fun (u : MmdT) => (mmdW cI cN cZ a1 u)) 0 0 := by
  refine km_startI (cc := b_Md_barred) (maxL := 4) (ret := (some .int)) (by decide) rfl (Nat.le_of_ble_eq_true rfl) ?_
  intro p e s m below meth c A ls hE hA hK hP hD hS hl
  obtain ⟨hx, hb, hr, hml, hown, hts0, hlk, hnm⟩ := id hE
  have hts : ∀ w ∈ kmW, w.before ([.ref (a1 0), .int x1, .int x2, .int x3] : List Value).toArray s = true := fun w h => hts0 w (List.mem_cons_of_mem _ h)
  have hP : va_P D kmC (mmdW cI cN cZ a1 z1) s.heap := hP
  have hl : lv_has ls 4 [(0, .ref (a1 0)), (1, .int x1), (2, .int x2), (3, .int x3)] := hl
  unfold wp_Md_barred at hw
  refine lv_iload_n hx hb d_Md_barred_0 rfl (lv_at hl 1 rfl) ?_
  refine km_ci (wr := [(a1 0, .inr (6, [.int (mmd_requests z1), .ref (a1 1), .ref (a1 2), .ref (a1 3), .ref (a1 4), .ref (a1 5), .int (mmd_router z1), .ref (a1 6), .int (mmd_up z1), .ref (a1 7), .ref (a1 8), .ref (a1 9), .ref (a1 10), .ref (a1 11), .ref (a1 12), .ref (a1 13), .ref (a1 14), .ref (a1 15), .ref (a1 16), .ref (a1 17), .ref (a1 18), .ref (a1 19), .ref (a1 20), .ref (a1 21), .ref (a1 22), .ref (a1 23), .ref (a1 24), .ref (a1 25), .int (mmd_members z1), .int (mmd_atC z1), .int (mmd_atE z1)])), (a1 1, .inl (cI, 31, .inl (mmd_kindOf z1))), (a1 2, .inl (cI, 31, .inl (mmd_keyOf z1))), (a1 3, .inl (cI, 31, .inl (mmd_numberOf z1))), (a1 4, .inl (cI, 31, .inl (mmd_heardOf z1))), (a1 5, .inl (cI, 31, .inl (mmd_replyOf z1))), (a1 6, .inl (cI, 45, .inl (mmd_decided z1))), (a1 7, .inl (cI, 6, .inl (mmd_configuration z1))), (a1 8, .inl (cI, 6, .inl (mmd_executed z1))), (a1 9, .inl (cI, 6, .inl (mmd_known z1))), (a1 10, .inl (cI, 6, .inl (mmd_last z1))), (a1 11, .inl (cI, 6, .inl (mmd_retired z1))), (a1 12, .inl (cI, 6, .inl (mmd_pending z1))), (a1 13, .inl (cI, 270, .inl (mmd_promised z1))), (a1 14, .inl (cI, 270, .inl (mmd_voteBallot z1))), (a1 15, .inl (cI, 270, .inl (mmd_voteCommand z1))), (a1 16, .inl (cI, 6, .inl (mmd_slot z1))), (a1 17, .inl (cI, 6, .inl (mmd_ballot z1))), (a1 18, .inl (cI, 6, .inl (mmd_promisers z1))), (a1 19, .inl (cI, 6, .inl (mmd_voters z1))), (a1 20, .inl (cI, 6, .inl (mmd_bestBallot z1))), (a1 21, .inl (cI, 6, .inl (mmd_bestCommand z1))), (a1 22, .inl (cI, 6, .inl (mmd_command z1))), (a1 23, .inl (cI, 4, .inl (mmd_values z1))), (a1 24, .inl (cZ, 31, .inl (mmd_done z1))), (a1 25, .inl (cI, 31, .inl (mmd_answers z1)))]) (km_rS (n := 1) hE kmG (c_Md_node l D cI cN cZ x1 _ hw) mw_535 mw_533 mw_534 mw_8 (by decide) ⟨rfl, rfl, ⟨by decide, by decide⟩, by decide, by decide⟩ hK (km_cut hP [] rfl) (hD.sub [] (by decide) rfl) rfl hl.1 rfl (Nat.le_of_ble_eq_true rfl) d_Md_barred_1) hP hD hS hA [] [0, 1, 2, 3, 4, 5, 6, 7, 8, 9, 10, 11, 12, 13, 14, 15, 16, 17, 18, 19, 20, 21, 22, 23, 24, 25] rfl rfl (by decide) (by decide) (fun r1 _ H locs hw hP hD hS => ?_)
  have hP := hP.sub (ws' := (mmdW cI cN cZ a1 z1)) [0, 1, 2, 3, 4, 5, 6, 7, 8, 9, 10, 11, 12, 13, 14, 15, 16, 17, 18, 19, 20, 21, 22, 23, 24, 25] rfl
  have hD := hD.sub (ws' := (mmdW cI cN cZ a1 z1)) [0, 1, 2, 3, 4, 5, 6, 7, 8, 9, 10, 11, 12, 13, 14, 15, 16, 17, 18, 19, 20, 21, 22, 23, 24, 25] (by decide) rfl
  refine lv_if_eq (tgt := 14) hx hb d_Md_barred_4 (by first | rfl | decide) (fun h2 => ?_) (fun h2 => ?_)
  · have hw := hw.1 h2
    refine lv_iconst (v := (-1 : Int32)) hx hb d_Md_barred_14 (by decide) ?_
    exact W.iret (v := (-1 : Int32)) hx hb hr (fun t ht hW => ⟨⟨(-1 : Int32), z1, rfl, hw, by rw [ht]; exact hP, hD⟩, hS.F ht⟩) hS.2.2 d_Md_barred_15
  · have hw := hw.2 h2
    refine lv_iload_n hx hb d_Md_barred_7 rfl (lv_at hl 2 rfl) ?_
    refine km_ci (wr := [(a1 0, .inr (6, [.int (mmd_requests z1), .ref (a1 1), .ref (a1 2), .ref (a1 3), .ref (a1 4), .ref (a1 5), .int (mmd_router z1), .ref (a1 6), .int (mmd_up z1), .ref (a1 7), .ref (a1 8), .ref (a1 9), .ref (a1 10), .ref (a1 11), .ref (a1 12), .ref (a1 13), .ref (a1 14), .ref (a1 15), .ref (a1 16), .ref (a1 17), .ref (a1 18), .ref (a1 19), .ref (a1 20), .ref (a1 21), .ref (a1 22), .ref (a1 23), .ref (a1 24), .ref (a1 25), .int (mmd_members z1), .int (mmd_atC z1), .int (mmd_atE z1)])), (a1 1, .inl (cI, 31, .inl (mmd_kindOf z1))), (a1 2, .inl (cI, 31, .inl (mmd_keyOf z1))), (a1 3, .inl (cI, 31, .inl (mmd_numberOf z1))), (a1 4, .inl (cI, 31, .inl (mmd_heardOf z1))), (a1 5, .inl (cI, 31, .inl (mmd_replyOf z1))), (a1 6, .inl (cI, 45, .inl (mmd_decided z1))), (a1 7, .inl (cI, 6, .inl (mmd_configuration z1))), (a1 8, .inl (cI, 6, .inl (mmd_executed z1))), (a1 9, .inl (cI, 6, .inl (mmd_known z1))), (a1 10, .inl (cI, 6, .inl (mmd_last z1))), (a1 11, .inl (cI, 6, .inl (mmd_retired z1))), (a1 12, .inl (cI, 6, .inl (mmd_pending z1))), (a1 13, .inl (cI, 270, .inl (mmd_promised z1))), (a1 14, .inl (cI, 270, .inl (mmd_voteBallot z1))), (a1 15, .inl (cI, 270, .inl (mmd_voteCommand z1))), (a1 16, .inl (cI, 6, .inl (mmd_slot z1))), (a1 17, .inl (cI, 6, .inl (mmd_ballot z1))), (a1 18, .inl (cI, 6, .inl (mmd_promisers z1))), (a1 19, .inl (cI, 6, .inl (mmd_voters z1))), (a1 20, .inl (cI, 6, .inl (mmd_bestBallot z1))), (a1 21, .inl (cI, 6, .inl (mmd_bestCommand z1))), (a1 22, .inl (cI, 6, .inl (mmd_command z1))), (a1 23, .inl (cI, 4, .inl (mmd_values z1))), (a1 24, .inl (cZ, 31, .inl (mmd_done z1))), (a1 25, .inl (cI, 31, .inl (mmd_answers z1)))]) (km_rS (n := 1) hE kmG (c_Md_node l D cI cN cZ x2 _ hw) mw_535 mw_533 mw_534 mw_8 (by decide) ⟨rfl, rfl, ⟨by decide, by decide⟩, by decide, by decide⟩ hK (km_cut hP [] rfl) (hD.sub [] (by decide) rfl) rfl hl.1 rfl (Nat.le_of_ble_eq_true rfl) d_Md_barred_8) hP hD hS hA [] [0, 1, 2, 3, 4, 5, 6, 7, 8, 9, 10, 11, 12, 13, 14, 15, 16, 17, 18, 19, 20, 21, 22, 23, 24, 25] rfl rfl (by decide) (by decide) (fun r3 _ H locs hw hP hD hS => ?_)
    have hP := hP.sub (ws' := (mmdW cI cN cZ a1 z1)) [0, 1, 2, 3, 4, 5, 6, 7, 8, 9, 10, 11, 12, 13, 14, 15, 16, 17, 18, 19, 20, 21, 22, 23, 24, 25] rfl
    have hD := hD.sub (ws' := (mmdW cI cN cZ a1 z1)) [0, 1, 2, 3, 4, 5, 6, 7, 8, 9, 10, 11, 12, 13, 14, 15, 16, 17, 18, 19, 20, 21, 22, 23, 24, 25] (by decide) rfl
    refine lv_if_ne (tgt := 16) hx hb d_Md_barred_11 (by first | rfl | decide) (fun h4 => ?_) (fun h4 => ?_)
    · have hw := hw.2 h4
      refine lv_aload_n hx hb d_Md_barred_16 rfl (lv_at hl 0 rfl) ?_
      refine lv_iload_n hx hb d_Md_barred_17 rfl (lv_at hl 1 rfl) ?_
      refine km_ci (wr := []) (km_rV (n := 1) hE kmG (c_Md_isUp l D cI cN cZ a1 z1 x1 _ hw) mw_539 mw_536 mw_538 mp_29 mw_8 (by decide) ⟨rfl, rfl, ⟨by decide, by decide⟩, by decide, by decide⟩ hK (km_cut hP [0, 1, 2, 3, 4, 5, 6, 7, 8, 9, 10, 11, 12, 13, 14, 15, 16, 17, 18, 19, 20, 21, 22, 23, 24, 25] rfl) (hD.sub [0, 1, 2, 3, 4, 5, 6, 7, 8, 9, 10, 11, 12, 13, 14, 15, 16, 17, 18, 19, 20, 21, 22, 23, 24, 25] (by decide) rfl) (ci := 6) rfl hP (q0 := 0) rfl rfl hl.1 rfl (Nat.le_of_ble_eq_true rfl) d_Md_barred_18) hP hD hS hA [0, 1, 2, 3, 4, 5, 6, 7, 8, 9, 10, 11, 12, 13, 14, 15, 16, 17, 18, 19, 20, 21, 22, 23, 24, 25] [] rfl rfl (by decide) (by decide) (fun r5 u6 H locs hw hP hD hS => ?_)
      have hP : va_P D kmC (mmdW cI cN cZ a1 u6) H := hP
      have hD : va_D A (mmdW cI cN cZ a1 u6) := hD
      refine lv_if_eq (tgt := 45) hx hb d_Md_barred_21 (by first | rfl | decide) (fun h7 => ?_) (fun h7 => ?_)
      · have hw := hw.1 h7
        refine lv_iconst (v := (0 : Int32)) hx hb d_Md_barred_45 (by decide) ?_
        exact W.iret (v := (0 : Int32)) hx hb hr (fun t ht hW => ⟨⟨(0 : Int32), u6, rfl, hw, by rw [ht]; exact hP, hD⟩, hS.F ht⟩) hS.2.2 d_Md_barred_46
      · have hw := hw.2 h7
        refine lv_aload_n hx hb d_Md_barred_24 rfl (lv_at hl 0 rfl) ?_
        refine va_get (D := D) (ci := 6) (v := .ref (a1 16)) (C := R_Md) (T := F_Md) (N := 31) hx hb hts iw_Md hown hK.1 hP 0 rfl rfl 18 (by decide) (hts _ mw_445) (fun _ h => h) rfl d_Md_barred_25 ?_
        refine lv_iload_n hx hb d_Md_barred_28 rfl (lv_at hl 1 rfl) ?_
        obtain ⟨hin, hw⟩ := hw
        refine va_iald (f := (mmd_slot u6)) hx hb hK.1 hP 16 0 rfl rfl hin d_Md_barred_29 ?_
        refine lv_if_eq (tgt := 45) hx hb d_Md_barred_30 (by first | rfl | decide) (fun h8 => ?_) (fun h8 => ?_)
        · have hw := hw.1 h8
          refine lv_iconst (v := (0 : Int32)) hx hb d_Md_barred_45 (by decide) ?_
          exact W.iret (v := (0 : Int32)) hx hb hr (fun t ht hW => ⟨⟨(0 : Int32), u6, rfl, hw, by rw [ht]; exact hP, hD⟩, hS.F ht⟩) hS.2.2 d_Md_barred_46
        · have hw := hw.2 h8
          refine lv_aload_n hx hb d_Md_barred_33 rfl (lv_at hl 0 rfl) ?_
          refine lv_iload_n hx hb d_Md_barred_34 rfl (lv_at hl 1 rfl) ?_
          refine km_ci (wr := []) (km_rV (n := 1) hE kmG (c_Md_membersOf l D cI cN cZ a1 u6 x1 _ hw) mw_580 mw_577 mw_579 mp_36 mw_8 (by decide) ⟨rfl, rfl, ⟨by decide, by decide⟩, by decide, by decide⟩ hK (km_cut hP [0, 1, 2, 3, 4, 5, 6, 7, 8, 9, 10, 11, 12, 13, 14, 15, 16, 17, 18, 19, 20, 21, 22, 23, 24, 25] rfl) (hD.sub [0, 1, 2, 3, 4, 5, 6, 7, 8, 9, 10, 11, 12, 13, 14, 15, 16, 17, 18, 19, 20, 21, 22, 23, 24, 25] (by decide) rfl) (ci := 6) rfl hP (q0 := 0) rfl rfl hl.1 rfl (Nat.le_of_ble_eq_true rfl) d_Md_barred_35) hP hD hS hA [0, 1, 2, 3, 4, 5, 6, 7, 8, 9, 10, 11, 12, 13, 14, 15, 16, 17, 18, 19, 20, 21, 22, 23, 24, 25] [] rfl rfl (by decide) (by decide) (fun r9 u10 H locs hw hP hD hS => ?_)
          have hP : va_P D kmC (mmdW cI cN cZ a1 u10) H := hP
          have hD : va_D A (mmdW cI cN cZ a1 u10) := hD
          refine lv_iload_n hx hb d_Md_barred_38 rfl (lv_at hl 2 rfl) ?_
          refine lv_ishr hx hb d_Md_barred_39 ?_
          refine lv_iconst (v := (1 : Int32)) hx hb d_Md_barred_40 (by decide) ?_
          refine lv_iand hx hb d_Md_barred_41 ?_
          refine lv_if_ne (tgt := 47) hx hb d_Md_barred_42 (by first | rfl | decide) (fun h11 => ?_) (fun h11 => ?_)
          · have hw := hw.2 h11
            refine lv_iload_n hx hb d_Md_barred_47 rfl (lv_at hl 3 rfl) ?_
            refine lv_if_eq (tgt := 67) hx hb d_Md_barred_48 (by first | rfl | decide) (fun h12 => ?_) (fun h12 => ?_)
            · have hw := hw.1 h12
              refine lv_aload_n hx hb d_Md_barred_67 rfl (lv_at hl 0 rfl) ?_
              refine lv_iload_n hx hb d_Md_barred_68 rfl (lv_at hl 2 rfl) ?_
              refine km_ci (wr := []) (km_rV (n := 1) hE kmG (c_Md_isUp l D cI cN cZ a1 u10 x2 _ hw) mw_539 mw_536 mw_538 mp_29 mw_8 (by decide) ⟨rfl, rfl, ⟨by decide, by decide⟩, by decide, by decide⟩ hK (km_cut hP [0, 1, 2, 3, 4, 5, 6, 7, 8, 9, 10, 11, 12, 13, 14, 15, 16, 17, 18, 19, 20, 21, 22, 23, 24, 25] rfl) (hD.sub [0, 1, 2, 3, 4, 5, 6, 7, 8, 9, 10, 11, 12, 13, 14, 15, 16, 17, 18, 19, 20, 21, 22, 23, 24, 25] (by decide) rfl) (ci := 6) rfl hP (q0 := 0) rfl rfl hl.1 rfl (Nat.le_of_ble_eq_true rfl) d_Md_barred_69) hP hD hS hA [0, 1, 2, 3, 4, 5, 6, 7, 8, 9, 10, 11, 12, 13, 14, 15, 16, 17, 18, 19, 20, 21, 22, 23, 24, 25] [] rfl rfl (by decide) (by decide) (fun r13 u14 H locs hw hP hD hS => ?_)
              have hP : va_P D kmC (mmdW cI cN cZ a1 u14) H := hP
              have hD : va_D A (mmdW cI cN cZ a1 u14) := hD
              refine lv_if_eq (tgt := 79) hx hb d_Md_barred_72 (by first | rfl | decide) (fun h15 => ?_) (fun h15 => ?_)
              · have hw := hw.1 h15
                refine lv_bipush (v := (-2 : Int32)) hx hb d_Md_barred_79 (by decide) ?_
                exact W.iret (v := (-2 : Int32)) hx hb hr (fun t ht hW => ⟨⟨(-2 : Int32), u14, rfl, hw, by rw [ht]; exact hP, hD⟩, hS.F ht⟩) hS.2.2 d_Md_barred_81
              · have hw := hw.2 h15
                refine lv_iconst (v := (1 : Int32)) hx hb d_Md_barred_75 (by decide) ?_
                refine lv_goto (tgt := 81) hx hb d_Md_barred_76 (by first | rfl | decide) ?_
                exact W.iret (v := (1 : Int32)) hx hb hr (fun t ht hW => ⟨⟨(1 : Int32), u14, rfl, hw, by rw [ht]; exact hP, hD⟩, hS.F ht⟩) hS.2.2 d_Md_barred_81
            · have hw := hw.2 h12
              refine lv_aload_n hx hb d_Md_barred_51 rfl (lv_at hl 0 rfl) ?_
              refine lv_aload_n hx hb d_Md_barred_52 rfl (lv_at hl 0 rfl) ?_
              refine va_get (D := D) (ci := 6) (v := .ref (a1 18)) (C := R_Md) (T := F_Md) (N := 31) hx hb hts iw_Md hown hK.1 hP 0 rfl rfl 20 (by decide) (hts _ mw_447) (fun _ h => h) rfl d_Md_barred_53 ?_
              refine lv_iload_n hx hb d_Md_barred_56 rfl (lv_at hl 1 rfl) ?_
              obtain ⟨hin, hw⟩ := hw
              refine va_iald (f := (mmd_promisers u10)) hx hb hK.1 hP 18 0 rfl rfl hin d_Md_barred_57 ?_
              refine lv_iload_n hx hb d_Md_barred_58 rfl (lv_at hl 1 rfl) ?_
              refine km_ci (wr := []) (km_rV (n := 2) hE kmG (c_Md_majority l D cI cN cZ a1 u10 ((mmd_promisers u10) (x1).toNatClampNeg) x1 _ hw) mw_584 mw_581 mw_583 mp_37 mw_8 (by decide) ⟨rfl, rfl, ⟨by decide, by decide⟩, by decide, by decide⟩ hK (km_cut hP [0, 1, 2, 3, 4, 5, 6, 7, 8, 9, 10, 11, 12, 13, 14, 15, 16, 17, 18, 19, 20, 21, 22, 23, 24, 25] rfl) (hD.sub [0, 1, 2, 3, 4, 5, 6, 7, 8, 9, 10, 11, 12, 13, 14, 15, 16, 17, 18, 19, 20, 21, 22, 23, 24, 25] (by decide) rfl) (ci := 6) rfl hP (q0 := 0) rfl rfl hl.1 rfl (Nat.le_of_ble_eq_true rfl) d_Md_barred_59) hP hD hS hA [0, 1, 2, 3, 4, 5, 6, 7, 8, 9, 10, 11, 12, 13, 14, 15, 16, 17, 18, 19, 20, 21, 22, 23, 24, 25] [] rfl rfl (by decide) (by decide) (fun r16 u17 H locs hw hP hD hS => ?_)
              have hP : va_P D kmC (mmdW cI cN cZ a1 u17) H := hP
              have hD : va_D A (mmdW cI cN cZ a1 u17) := hD
              refine lv_if_ne (tgt := 67) hx hb d_Md_barred_62 (by first | rfl | decide) (fun h18 => ?_) (fun h18 => ?_)
              · have hw := hw.2 h18
                refine lv_aload_n hx hb d_Md_barred_67 rfl (lv_at hl 0 rfl) ?_
                refine lv_iload_n hx hb d_Md_barred_68 rfl (lv_at hl 2 rfl) ?_
                refine km_ci (wr := []) (km_rV (n := 1) hE kmG (c_Md_isUp l D cI cN cZ a1 u17 x2 _ hw) mw_539 mw_536 mw_538 mp_29 mw_8 (by decide) ⟨rfl, rfl, ⟨by decide, by decide⟩, by decide, by decide⟩ hK (km_cut hP [0, 1, 2, 3, 4, 5, 6, 7, 8, 9, 10, 11, 12, 13, 14, 15, 16, 17, 18, 19, 20, 21, 22, 23, 24, 25] rfl) (hD.sub [0, 1, 2, 3, 4, 5, 6, 7, 8, 9, 10, 11, 12, 13, 14, 15, 16, 17, 18, 19, 20, 21, 22, 23, 24, 25] (by decide) rfl) (ci := 6) rfl hP (q0 := 0) rfl rfl hl.1 rfl (Nat.le_of_ble_eq_true rfl) d_Md_barred_69) hP hD hS hA [0, 1, 2, 3, 4, 5, 6, 7, 8, 9, 10, 11, 12, 13, 14, 15, 16, 17, 18, 19, 20, 21, 22, 23, 24, 25] [] rfl rfl (by decide) (by decide) (fun r19 u20 H locs hw hP hD hS => ?_)
                have hP : va_P D kmC (mmdW cI cN cZ a1 u20) H := hP
                have hD : va_D A (mmdW cI cN cZ a1 u20) := hD
                refine lv_if_eq (tgt := 79) hx hb d_Md_barred_72 (by first | rfl | decide) (fun h21 => ?_) (fun h21 => ?_)
                · have hw := hw.1 h21
                  refine lv_bipush (v := (-2 : Int32)) hx hb d_Md_barred_79 (by decide) ?_
                  exact W.iret (v := (-2 : Int32)) hx hb hr (fun t ht hW => ⟨⟨(-2 : Int32), u20, rfl, hw, by rw [ht]; exact hP, hD⟩, hS.F ht⟩) hS.2.2 d_Md_barred_81
                · have hw := hw.2 h21
                  refine lv_iconst (v := (1 : Int32)) hx hb d_Md_barred_75 (by decide) ?_
                  refine lv_goto (tgt := 81) hx hb d_Md_barred_76 (by first | rfl | decide) ?_
                  exact W.iret (v := (1 : Int32)) hx hb hr (fun t ht hW => ⟨⟨(1 : Int32), u20, rfl, hw, by rw [ht]; exact hP, hD⟩, hS.F ht⟩) hS.2.2 d_Md_barred_81
              · have hw := hw.1 h18
                refine lv_iconst (v := (0 : Int32)) hx hb d_Md_barred_65 (by decide) ?_
                exact W.iret (v := (0 : Int32)) hx hb hr (fun t ht hW => ⟨⟨(0 : Int32), u17, rfl, hw, by rw [ht]; exact hP, hD⟩, hS.F ht⟩) hS.2.2 d_Md_barred_66
          · have hw := hw.1 h11
            refine lv_iconst (v := (0 : Int32)) hx hb d_Md_barred_45 (by decide) ?_
            exact W.iret (v := (0 : Int32)) hx hb hr (fun t ht hW => ⟨⟨(0 : Int32), u10, rfl, hw, by rw [ht]; exact hP, hD⟩, hS.F ht⟩) hS.2.2 d_Md_barred_46
    · have hw := hw.1 h4
      refine lv_iconst (v := (-1 : Int32)) hx hb d_Md_barred_14 (by decide) ?_
      exact W.iret (v := (-1 : Int32)) hx hb hr (fun t ht hW => ⟨⟨(-1 : Int32), z1, rfl, hw, by rw [ht]; exact hP, hD⟩, hS.F ht⟩) hS.2.2 d_Md_barred_15
set_option maxHeartbeats 4000000 in
set_option maxRecDepth 100000 in
theorem c_Md_answer (l : Launch) (D : va_G) (cI cN cZ : ClassId) (a1 : Nat → Nat) (z1 : MmdT) (x1 : Int32) (x2 : Int32) (x3 : Int32) (post : Int32 → MmdT → Prop) (hw : wp_Md_answer z1 x1 x2 x3 post) : km_I l y_Md_answer (.code y_Md_answer b_Md_answer 5 (some .int) :: kmW) rm_Md_answer D kmC (kmT cI cN cZ) kmF kmM [.ref (a1 0), .int x1, .int x2, .int x3] (mmdW cI cN cZ a1 z1) (fun (r : Int32) (u : MmdT) => post r u) (fun (u : MmdT) => (mmdW cI cN cZ a1 u)) 0 0 := by
  refine km_startI (cc := b_Md_answer) (maxL := 5) (ret := (some .int)) (by decide) rfl (Nat.le_of_ble_eq_true rfl) ?_
  intro p e s m below meth c A ls hE hA hK hP hD hS hl
  obtain ⟨hx, hb, hr, hml, hown, hts0, hlk, hnm⟩ := id hE
  have hts : ∀ w ∈ kmW, w.before ([.ref (a1 0), .int x1, .int x2, .int x3] : List Value).toArray s = true := fun w h => hts0 w (List.mem_cons_of_mem _ h)
  have hP : va_P D kmC (mmdW cI cN cZ a1 z1) s.heap := hP
  have hl : lv_has ls 5 [(0, .ref (a1 0)), (1, .int x1), (2, .int x2), (3, .int x3)] := hl
  unfold wp_Md_answer at hw
  refine lv_bipush (v := (45 : Int32)) hx hb d_Md_answer_0 (by decide) ?_
  refine lv_iload_n hx hb d_Md_answer_2 rfl (lv_at hl 2 rfl) ?_
  refine lv_imul hx hb d_Md_answer_3 ?_
  refine lv_bipush (v := (9 : Int32)) hx hb d_Md_answer_4 (by decide) ?_
  refine lv_aload_n hx hb d_Md_answer_6 rfl (lv_at hl 0 rfl) ?_
  refine va_get (D := D) (ci := 6) (v := .ref (a1 7)) (C := R_Md) (T := F_Md) (N := 31) hx hb hts iw_Md hown hK.1 hP 0 rfl rfl 9 (by decide) (hts _ mw_436) (fun _ h => h) rfl d_Md_answer_7 ?_
  refine lv_iload_n hx hb d_Md_answer_10 rfl (lv_at hl 1 rfl) ?_
  obtain ⟨hin, hw⟩ := hw
  refine va_iald (f := (mmd_configuration z1)) hx hb hK.1 hP 7 0 rfl rfl hin d_Md_answer_11 ?_
  refine lv_imul hx hb d_Md_answer_12 ?_
  refine lv_iadd hx hb d_Md_answer_13 ?_
  refine lv_aload_n hx hb d_Md_answer_14 rfl (lv_at hl 0 rfl) ?_
  refine va_get (D := D) (ci := 6) (v := .ref (a1 16)) (C := R_Md) (T := F_Md) (N := 31) hx hb hts iw_Md hown hK.1 hP 0 rfl rfl 18 (by decide) (hts _ mw_445) (fun _ h => h) rfl d_Md_answer_15 ?_
  refine lv_iload_n hx hb d_Md_answer_18 rfl (lv_at hl 1 rfl) ?_
  obtain ⟨hin, hw⟩ := hw
  refine va_iald (f := (mmd_slot z1)) hx hb hK.1 hP 16 0 rfl rfl hin d_Md_answer_19 ?_
  refine lv_iadd hx hb d_Md_answer_20 ?_
  refine lv_topi (fun v1 ev1 => ?_)
  have hw := hw v1 ev1
  refine lv_istore (lv' := [(4, .int v1), (0, .ref (a1 0)), (1, .int x1), (2, .int x2), (3, .int x3)]) hx hb d_Md_answer_21 hl (by decide) rfl (fun ls hl => ?_)
  refine lv_aload_n hx hb d_Md_answer_23 rfl (lv_at hl 1 rfl) ?_
  refine va_get (D := D) (ci := 6) (v := .ref (a1 11)) (C := R_Md) (T := F_Md) (N := 31) hx hb hts iw_Md hown hK.1 hP 0 rfl rfl 13 (by decide) (hts _ mw_440) (fun _ h => h) rfl d_Md_answer_24 ?_
  refine lv_iload_n hx hb d_Md_answer_27 rfl (lv_at hl 3 rfl) ?_
  obtain ⟨hin, hw⟩ := hw
  refine va_iald (f := (mmd_retired z1)) hx hb hK.1 hP 11 0 rfl rfl hin d_Md_answer_28 ?_
  refine lv_aload_n hx hb d_Md_answer_29 rfl (lv_at hl 1 rfl) ?_
  refine va_get (D := D) (ci := 6) (v := .ref (a1 7)) (C := R_Md) (T := F_Md) (N := 31) hx hb hts iw_Md hown hK.1 hP 0 rfl rfl 9 (by decide) (hts _ mw_436) (fun _ h => h) rfl d_Md_answer_30 ?_
  refine lv_iload_n hx hb d_Md_answer_33 rfl (lv_at hl 2 rfl) ?_
  obtain ⟨hin, hw⟩ := hw
  refine va_iald (f := (mmd_configuration z1)) hx hb hK.1 hP 7 0 rfl rfl hin d_Md_answer_34 ?_
  refine lv_icmp_le (tgt := 50) hx hb d_Md_answer_35 (by first | rfl | decide) (fun h2 => ?_) (fun h2 => ?_)
  · have hw := hw.1 h2
    refine lv_aload_n hx hb d_Md_answer_50 rfl (lv_at hl 1 rfl) ?_
    refine va_get (D := D) (ci := 6) (v := .ref (a1 17)) (C := R_Md) (T := F_Md) (N := 31) hx hb hts iw_Md hown hK.1 hP 0 rfl rfl 19 (by decide) (hts _ mw_446) (fun _ h => h) rfl d_Md_answer_51 ?_
    refine lv_iload_n hx hb d_Md_answer_54 rfl (lv_at hl 2 rfl) ?_
    obtain ⟨hin, hw⟩ := hw
    refine va_iald (f := (mmd_ballot z1)) hx hb hK.1 hP 17 0 rfl rfl hin d_Md_answer_55 ?_
    refine lv_aload_n hx hb d_Md_answer_56 rfl (lv_at hl 1 rfl) ?_
    refine va_get (D := D) (ci := 6) (v := .ref (a1 13)) (C := R_Md) (T := F_Md) (N := 31) hx hb hts iw_Md hown hK.1 hP 0 rfl rfl 15 (by decide) (hts _ mw_442) (fun _ h => h) rfl d_Md_answer_57 ?_
    refine lv_iload hx hb d_Md_answer_60 (lv_at hl 0 rfl) ?_
    obtain ⟨hin, hw⟩ := hw
    refine va_iald (f := (mmd_promised z1)) hx hb hK.1 hP 13 0 rfl rfl hin d_Md_answer_62 ?_
    refine lv_icmp_ge (tgt := 101) hx hb d_Md_answer_63 (by first | rfl | decide) (fun h3 => ?_) (fun h3 => ?_)
    · have hw := hw.1 h3
      refine lv_aload_n hx hb d_Md_answer_101 rfl (lv_at hl 1 rfl) ?_
      refine va_get (D := D) (ci := 6) (v := .ref (a1 13)) (C := R_Md) (T := F_Md) (N := 31) hx hb hts iw_Md hown hK.1 hP 0 rfl rfl 15 (by decide) (hts _ mw_442) (fun _ h => h) rfl d_Md_answer_102 ?_
      refine lv_iload hx hb d_Md_answer_105 (lv_at hl 0 rfl) ?_
      refine lv_aload_n hx hb d_Md_answer_107 rfl (lv_at hl 1 rfl) ?_
      refine va_get (D := D) (ci := 6) (v := .ref (a1 17)) (C := R_Md) (T := F_Md) (N := 31) hx hb hts iw_Md hown hK.1 hP 0 rfl rfl 19 (by decide) (hts _ mw_446) (fun _ h => h) rfl d_Md_answer_108 ?_
      refine lv_iload_n hx hb d_Md_answer_111 rfl (lv_at hl 2 rfl) ?_
      obtain ⟨hin, hw⟩ := hw
      refine va_iald (f := (mmd_ballot z1)) hx hb hK.1 hP 17 0 rfl rfl hin d_Md_answer_112 ?_
      obtain ⟨hin, hw⟩ := hw
      refine va_iast (f := (mmd_promised z1)) hx hb hK.1 hP hD hS 13 0 rfl rfl hin d_Md_answer_113 (fun H locs hP hD hS => ?_)
      have hP := (congrArg (fun w => va_P D kmC w H) (sw_mmd_s_promised cI cN cZ a1 z1 (upd (mmd_promised z1) (v1).toNatClampNeg ((mmd_ballot z1) (x1).toNatClampNeg)))).mp hP
      have hD := (congrArg (va_D A) (sw_mmd_s_promised cI cN cZ a1 z1 (upd (mmd_promised z1) (v1).toNatClampNeg ((mmd_ballot z1) (x1).toNatClampNeg)))).mp hD
      obtain ⟨w4, ew4⟩ : ∃ z : MmdT, z = mmd_s_promised z1 (upd (mmd_promised z1) (v1).toNatClampNeg ((mmd_ballot z1) (x1).toNatClampNeg)) := ⟨_, rfl⟩
      rw [← ew4] at hP hD
      have hw := hw w4 ew4
      refine lv_iconst (v := (1 : Int32)) hx hb d_Md_answer_114 (by decide) ?_
      exact W.iret (v := (1 : Int32)) hx hb hr (fun t ht hW => ⟨⟨(1 : Int32), w4, rfl, hw, by rw [ht]; exact hP, hD⟩, hS.F ht⟩) hS.2.2 d_Md_answer_115
    · have hw := hw.2 h3
      refine lv_iload_n hx hb d_Md_answer_66 rfl (lv_at hl 4 rfl) ?_
      refine lv_if_eq (tgt := 99) hx hb d_Md_answer_67 (by first | rfl | decide) (fun h5 => ?_) (fun h5 => ?_)
      · have hw := hw.1 h5
        refine lv_iconst (v := (2 : Int32)) hx hb d_Md_answer_99 (by decide) ?_
        exact W.iret (v := (2 : Int32)) hx hb hr (fun t ht hW => ⟨⟨(2 : Int32), z1, rfl, hw, by rw [ht]; exact hP, hD⟩, hS.F ht⟩) hS.2.2 d_Md_answer_100
      · have hw := hw.2 h5
        refine lv_aload_n hx hb d_Md_answer_70 rfl (lv_at hl 1 rfl) ?_
        refine va_get (D := D) (ci := 6) (v := .ref (a1 13)) (C := R_Md) (T := F_Md) (N := 31) hx hb hts iw_Md hown hK.1 hP 0 rfl rfl 15 (by decide) (hts _ mw_442) (fun _ h => h) rfl d_Md_answer_71 ?_
        refine lv_iload hx hb d_Md_answer_74 (lv_at hl 0 rfl) ?_
        obtain ⟨hin, hw⟩ := hw
        refine va_iald (f := (mmd_promised z1)) hx hb hK.1 hP 13 0 rfl rfl hin d_Md_answer_76 ?_
        refine lv_aload_n hx hb d_Md_answer_77 rfl (lv_at hl 1 rfl) ?_
        refine va_get (D := D) (ci := 6) (v := .ref (a1 10)) (C := R_Md) (T := F_Md) (N := 31) hx hb hts iw_Md hown hK.1 hP 0 rfl rfl 12 (by decide) (hts _ mw_439) (fun _ h => h) rfl d_Md_answer_78 ?_
        refine lv_iload_n hx hb d_Md_answer_81 rfl (lv_at hl 2 rfl) ?_
        obtain ⟨hin, hw⟩ := hw
        refine va_iald (f := (mmd_last z1)) hx hb hK.1 hP 10 0 rfl rfl hin d_Md_answer_82 ?_
        refine lv_icmp_le (tgt := 99) hx hb d_Md_answer_83 (by first | rfl | decide) (fun h6 => ?_) (fun h6 => ?_)
        · have hw := hw.1 h6
          refine lv_iconst (v := (2 : Int32)) hx hb d_Md_answer_99 (by decide) ?_
          exact W.iret (v := (2 : Int32)) hx hb hr (fun t ht hW => ⟨⟨(2 : Int32), z1, rfl, hw, by rw [ht]; exact hP, hD⟩, hS.F ht⟩) hS.2.2 d_Md_answer_100
        · have hw := hw.2 h6
          refine lv_aload_n hx hb d_Md_answer_86 rfl (lv_at hl 1 rfl) ?_
          refine va_get (D := D) (ci := 6) (v := .ref (a1 10)) (C := R_Md) (T := F_Md) (N := 31) hx hb hts iw_Md hown hK.1 hP 0 rfl rfl 12 (by decide) (hts _ mw_439) (fun _ h => h) rfl d_Md_answer_87 ?_
          refine lv_iload_n hx hb d_Md_answer_90 rfl (lv_at hl 2 rfl) ?_
          refine lv_aload_n hx hb d_Md_answer_91 rfl (lv_at hl 1 rfl) ?_
          refine va_get (D := D) (ci := 6) (v := .ref (a1 13)) (C := R_Md) (T := F_Md) (N := 31) hx hb hts iw_Md hown hK.1 hP 0 rfl rfl 15 (by decide) (hts _ mw_442) (fun _ h => h) rfl d_Md_answer_92 ?_
          refine lv_iload hx hb d_Md_answer_95 (lv_at hl 0 rfl) ?_
          obtain ⟨hin, hw⟩ := hw
          refine va_iald (f := (mmd_promised z1)) hx hb hK.1 hP 13 0 rfl rfl hin d_Md_answer_97 ?_
          obtain ⟨hin, hw⟩ := hw
          refine va_iast (f := (mmd_last z1)) hx hb hK.1 hP hD hS 10 0 rfl rfl hin d_Md_answer_98 (fun H locs hP hD hS => ?_)
          have hP := (congrArg (fun w => va_P D kmC w H) (sw_mmd_s_last cI cN cZ a1 z1 (upd (mmd_last z1) (x1).toNatClampNeg ((mmd_promised z1) (v1).toNatClampNeg)))).mp hP
          have hD := (congrArg (va_D A) (sw_mmd_s_last cI cN cZ a1 z1 (upd (mmd_last z1) (x1).toNatClampNeg ((mmd_promised z1) (v1).toNatClampNeg)))).mp hD
          obtain ⟨w7, ew7⟩ : ∃ z : MmdT, z = mmd_s_last z1 (upd (mmd_last z1) (x1).toNatClampNeg ((mmd_promised z1) (v1).toNatClampNeg)) := ⟨_, rfl⟩
          rw [← ew7] at hP hD
          have hw := hw w7 ew7
          refine lv_iconst (v := (2 : Int32)) hx hb d_Md_answer_99 (by decide) ?_
          exact W.iret (v := (2 : Int32)) hx hb hr (fun t ht hW => ⟨⟨(2 : Int32), w7, rfl, hw, by rw [ht]; exact hP, hD⟩, hS.F ht⟩) hS.2.2 d_Md_answer_100
  · have hw := hw.2 h2
    refine lv_iload_n hx hb d_Md_answer_38 rfl (lv_at hl 4 rfl) ?_
    refine lv_if_eq (tgt := 48) hx hb d_Md_answer_39 (by first | rfl | decide) (fun h8 => ?_) (fun h8 => ?_)
    · have hw := hw.1 h8
      refine lv_iconst (v := (3 : Int32)) hx hb d_Md_answer_48 (by decide) ?_
      exact W.iret (v := (3 : Int32)) hx hb hr (fun t ht hW => ⟨⟨(3 : Int32), z1, rfl, hw, by rw [ht]; exact hP, hD⟩, hS.F ht⟩) hS.2.2 d_Md_answer_49
    · have hw := hw.2 h8
      refine lv_aload_n hx hb d_Md_answer_42 rfl (lv_at hl 1 rfl) ?_
      refine lv_iload_n hx hb d_Md_answer_43 rfl (lv_at hl 2 rfl) ?_
      refine lv_iload_n hx hb d_Md_answer_44 rfl (lv_at hl 3 rfl) ?_
      refine km_cv (wr := []) (km_rV (n := 2) hE kmG (c_Md_install l D cI cN cZ a1 z1 x1 x2 _ hw) mw_592 mw_589 mw_591 mp_39 mw_8 (by decide) ⟨rfl, rfl, ⟨by decide, by decide⟩, by decide, by decide⟩ hK (km_cut hP [0, 1, 2, 3, 4, 5, 6, 7, 8, 9, 10, 11, 12, 13, 14, 15, 16, 17, 18, 19, 20, 21, 22, 23, 24, 25] rfl) (hD.sub [0, 1, 2, 3, 4, 5, 6, 7, 8, 9, 10, 11, 12, 13, 14, 15, 16, 17, 18, 19, 20, 21, 22, 23, 24, 25] (by decide) rfl) (ci := 6) rfl hP (q0 := 0) rfl rfl hl.1 rfl (Nat.le_of_ble_eq_true rfl) d_Md_answer_45) hP hD hS hA [0, 1, 2, 3, 4, 5, 6, 7, 8, 9, 10, 11, 12, 13, 14, 15, 16, 17, 18, 19, 20, 21, 22, 23, 24, 25] [] rfl rfl (by decide) (by decide) (fun u10 H locs hw hP hD hS => ?_)
      have hP : va_P D kmC (mmdW cI cN cZ a1 u10) H := hP
      have hD : va_D A (mmdW cI cN cZ a1 u10) := hD
      refine lv_iconst (v := (3 : Int32)) hx hb d_Md_answer_48 (by decide) ?_
      exact W.iret (v := (3 : Int32)) hx hb hr (fun t ht hW => ⟨⟨(3 : Int32), u10, rfl, hw, by rw [ht]; exact hP, hD⟩, hS.F ht⟩) hS.2.2 d_Md_answer_49
