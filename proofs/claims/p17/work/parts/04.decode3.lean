theorem dX6_handles_31 : decode cX6_handles 31 = .ok (.iaload, 1) := by decide +kernel
theorem dX6_handles_32 : decode cX6_handles 32 = .ok (.iconst 1, 1) := by decide +kernel
theorem dX6_handles_33 : decode cX6_handles 33 = .ok (.if_icmp .ne 10, 3) := by decide +kernel
theorem dX6_handles_36 : decode cX6_handles 36 = .ok (.iload 4, 2) := by decide +kernel
theorem dX6_handles_38 : decode cX6_handles 38 = .ok (.iconst 2, 1) := by decide +kernel
theorem dX6_handles_39 : decode cX6_handles 39 = .ok (.if_icmp .ge 4, 3) := by decide +kernel
theorem dX6_handles_42 : decode cX6_handles 42 = .ok (.return_, 1) := by decide +kernel
theorem dX6_handles_43 : decode cX6_handles 43 = .ok (.aload_n 0, 1) := by decide +kernel
theorem dX6_handles_44 : decode cX6_handles 44 = .ok (.getfield 13, 3) := by decide +kernel
theorem dX6_handles_47 : decode cX6_handles 47 = .ok (.iload_n 3, 1) := by decide +kernel
theorem dX6_handles_48 : decode cX6_handles 48 = .ok (.iaload, 1) := by decide +kernel
theorem dX6_handles_49 : decode cX6_handles 49 = .ok (.istore 5, 2) := by decide +kernel
theorem dX6_handles_51 : decode cX6_handles 51 = .ok (.iload_n 3, 1) := by decide +kernel
theorem dX6_handles_52 : decode cX6_handles 52 = .ok (.ifCond .lt 23, 3) := by decide +kernel
theorem dX6_handles_55 : decode cX6_handles 55 = .ok (.aload_n 0, 1) := by decide +kernel
theorem dX6_handles_56 : decode cX6_handles 56 = .ok (.iload 5, 2) := by decide +kernel
theorem dX6_handles_58 : decode cX6_handles 58 = .ok (.invokevirtual 106, 3) := by decide +kernel
theorem dX6_handles_61 : decode cX6_handles 61 = .ok (.ifCond .ne 14, 3) := by decide +kernel
theorem dX6_handles_64 : decode cX6_handles 64 = .ok (.aload_n 0, 1) := by decide +kernel
theorem dX6_handles_65 : decode cX6_handles 65 = .ok (.iload 5, 2) := by decide +kernel
theorem dX6_handles_67 : decode cX6_handles 67 = .ok (.iload_n 3, 1) := by decide +kernel
theorem dX6_handles_68 : decode cX6_handles 68 = .ok (.invokevirtual 109, 3) := by decide +kernel
theorem dX6_handles_71 : decode cX6_handles 71 = .ok (.istore_n 3, 1) := by decide +kernel
theorem dX6_handles_72 : decode cX6_handles 72 = .ok (.goto (-21), 3) := by decide +kernel
theorem dX6_handles_75 : decode cX6_handles 75 = .ok (.iload_n 3, 1) := by decide +kernel
theorem dX6_handles_76 : decode cX6_handles 76 = .ok (.ifCond .ge 4, 3) := by decide +kernel
theorem dX6_handles_79 : decode cX6_handles 79 = .ok (.return_, 1) := by decide +kernel
theorem dX6_handles_80 : decode cX6_handles 80 = .ok (.aload_n 0, 1) := by decide +kernel
theorem dX6_handles_81 : decode cX6_handles 81 = .ok (.bipush 6, 2) := by decide +kernel
theorem dX6_handles_83 : decode cX6_handles 83 = .ok (.iload 5, 2) := by decide +kernel
theorem dX6_handles_85 : decode cX6_handles 85 = .ok (.iconst 0, 1) := by decide +kernel
theorem dX6_handles_86 : decode cX6_handles 86 = .ok (.invokevirtual 89, 3) := by decide +kernel
theorem dX6_handles_89 : decode cX6_handles 89 = .ok (.aload_n 0, 1) := by decide +kernel
theorem dX6_handles_90 : decode cX6_handles 90 = .ok (.dup, 1) := by decide +kernel
theorem dX6_handles_91 : decode cX6_handles 91 = .ok (.getfield 112, 3) := by decide +kernel
theorem dX6_handles_94 : decode cX6_handles 94 = .ok (.iconst 1, 1) := by decide +kernel
theorem dX6_handles_95 : decode cX6_handles 95 = .ok (.iadd, 1) := by decide +kernel
theorem dX6_handles_96 : decode cX6_handles 96 = .ok (.putfield 112, 3) := by decide +kernel
theorem dX6_handles_99 : decode cX6_handles 99 = .ok (.aload_n 0, 1) := by decide +kernel
theorem dX6_handles_100 : decode cX6_handles 100 = .ok (.iload 5, 2) := by decide +kernel
theorem dX6_handles_102 : decode cX6_handles 102 = .ok (.iconst 0, 1) := by decide +kernel
theorem dX6_handles_103 : decode cX6_handles 103 = .ok (.iconst 0, 1) := by decide +kernel
theorem dX6_handles_104 : decode cX6_handles 104 = .ok (.invokevirtual 85, 3) := by decide +kernel
theorem dX6_handles_107 : decode cX6_handles 107 = .ok (.aload_n 0, 1) := by decide +kernel
theorem dX6_handles_108 : decode cX6_handles 108 = .ok (.getfield 20, 3) := by decide +kernel
theorem dX6_handles_111 : decode cX6_handles 111 = .ok (.iload 5, 2) := by decide +kernel
theorem dX6_handles_113 : decode cX6_handles 113 = .ok (.iconst 0, 1) := by decide +kernel
theorem dX6_handles_114 : decode cX6_handles 114 = .ok (.iastore, 1) := by decide +kernel
theorem dX6_handles_115 : decode cX6_handles 115 = .ok (.iload 5, 2) := by decide +kernel
theorem dX6_handles_117 : decode cX6_handles 117 = .ok (.istore_n 3, 1) := by decide +kernel
theorem dX6_handles_118 : decode cX6_handles 118 = .ok (.iconst 1, 1) := by decide +kernel
theorem dX6_handles_119 : decode cX6_handles 119 = .ok (.istore 4, 2) := by decide +kernel
theorem dX6_handles_121 : decode cX6_handles 121 = .ok (.goto (-116), 3) := by decide +kernel
theorem dX6_handles_124 : decode cX6_handles 124 = .ok (.return_, 1) := by decide +kernel
theorem dX6_restarts_0 : decode cX6_restarts 0 = .ok (.aload_n 0, 1) := by decide +kernel
theorem dX6_restarts_1 : decode cX6_restarts 1 = .ok (.iload_n 2, 1) := by decide +kernel
theorem dX6_restarts_2 : decode cX6_restarts 2 = .ok (.invokevirtual 96, 3) := by decide +kernel
theorem dX6_restarts_5 : decode cX6_restarts 5 = .ok (.istore_n 3, 1) := by decide +kernel
theorem dX6_restarts_6 : decode cX6_restarts 6 = .ok (.iload_n 3, 1) := by decide +kernel
theorem dX6_restarts_7 : decode cX6_restarts 7 = .ok (.iconst 1, 1) := by decide +kernel
theorem dX6_restarts_8 : decode cX6_restarts 8 = .ok (.iadd, 1) := by decide +kernel
theorem dX6_restarts_9 : decode cX6_restarts 9 = .ok (.istore 4, 2) := by decide +kernel
theorem dX6_restarts_11 : decode cX6_restarts 11 = .ok (.aload_n 0, 1) := by decide +kernel
theorem dX6_restarts_12 : decode cX6_restarts 12 = .ok (.getfield 26, 3) := by decide +kernel
theorem dX6_restarts_15 : decode cX6_restarts 15 = .ok (.iload_n 1, 1) := by decide +kernel
theorem dX6_restarts_16 : decode cX6_restarts 16 = .ok (.iaload, 1) := by decide +kernel
theorem dX6_restarts_17 : decode cX6_restarts 17 = .ok (.ifCond .eq 101, 3) := by decide +kernel
theorem dX6_restarts_20 : decode cX6_restarts 20 = .ok (.aload_n 0, 1) := by decide +kernel
theorem dX6_restarts_21 : decode cX6_restarts 21 = .ok (.getfield 26, 3) := by decide +kernel
theorem dX6_restarts_24 : decode cX6_restarts 24 = .ok (.iload_n 1, 1) := by decide +kernel
theorem dX6_restarts_25 : decode cX6_restarts 25 = .ok (.iaload, 1) := by decide +kernel
theorem dX6_restarts_26 : decode cX6_restarts 26 = .ok (.iconst 2, 1) := by decide +kernel
theorem dX6_restarts_27 : decode cX6_restarts 27 = .ok (.if_icmp .ne 7, 3) := by decide +kernel
theorem dX6_restarts_30 : decode cX6_restarts 30 = .ok (.iload_n 3, 1) := by decide +kernel
theorem dX6_restarts_31 : decode cX6_restarts 31 = .ok (.goto 4, 3) := by decide +kernel
theorem dX6_restarts_34 : decode cX6_restarts 34 = .ok (.iconst 0, 1) := by decide +kernel
theorem dX6_restarts_35 : decode cX6_restarts 35 = .ok (.istore_n 3, 1) := by decide +kernel
theorem dX6_restarts_36 : decode cX6_restarts 36 = .ok (.aload_n 0, 1) := by decide +kernel
theorem dX6_restarts_37 : decode cX6_restarts 37 = .ok (.getfield 50, 3) := by decide +kernel
theorem dX6_restarts_40 : decode cX6_restarts 40 = .ok (.iload_n 1, 1) := by decide +kernel
theorem dX6_restarts_41 : decode cX6_restarts 41 = .ok (.iaload, 1) := by decide +kernel
theorem dX6_restarts_42 : decode cX6_restarts 42 = .ok (.iconst 1, 1) := by decide +kernel
theorem dX6_restarts_43 : decode cX6_restarts 43 = .ok (.isub, 1) := by decide +kernel
theorem dX6_restarts_44 : decode cX6_restarts 44 = .ok (.istore 5, 2) := by decide +kernel
theorem dX6_restarts_46 : decode cX6_restarts 46 = .ok (.iload 5, 2) := by decide +kernel
theorem dX6_restarts_48 : decode cX6_restarts 48 = .ok (.iload_n 3, 1) := by decide +kernel
theorem dX6_restarts_49 : decode cX6_restarts 49 = .ok (.if_icmp .lt 61, 3) := by decide +kernel
theorem dX6_restarts_52 : decode cX6_restarts 52 = .ok (.aload_n 0, 1) := by decide +kernel
theorem dX6_restarts_53 : decode cX6_restarts 53 = .ok (.getfield 47, 3) := by decide +kernel
theorem dX6_restarts_56 : decode cX6_restarts 56 = .ok (.bipush 80, 2) := by decide +kernel
theorem dX6_restarts_58 : decode cX6_restarts 58 = .ok (.iload_n 1, 1) := by decide +kernel
theorem dX6_restarts_59 : decode cX6_restarts 59 = .ok (.imul, 1) := by decide +kernel
theorem dX6_restarts_60 : decode cX6_restarts 60 = .ok (.iload 5, 2) := by decide +kernel
theorem dX6_restarts_62 : decode cX6_restarts 62 = .ok (.iadd, 1) := by decide +kernel
theorem dX6_restarts_63 : decode cX6_restarts 63 = .ok (.iaload, 1) := by decide +kernel
theorem dX6_restarts_64 : decode cX6_restarts 64 = .ok (.istore 6, 2) := by decide +kernel
theorem dX6_restarts_66 : decode cX6_restarts 66 = .ok (.aload_n 0, 1) := by decide +kernel
theorem dX6_restarts_67 : decode cX6_restarts 67 = .ok (.getfield 20, 3) := by decide +kernel
theorem dX6_restarts_70 : decode cX6_restarts 70 = .ok (.iload 6, 2) := by decide +kernel
theorem dX6_restarts_72 : decode cX6_restarts 72 = .ok (.iaload, 1) := by decide +kernel
theorem dX6_restarts_73 : decode cX6_restarts 73 = .ok (.iconst 1, 1) := by decide +kernel
theorem dX6_restarts_74 : decode cX6_restarts 74 = .ok (.if_icmp .ne 30, 3) := by decide +kernel
theorem dX6_restarts_77 : decode cX6_restarts 77 = .ok (.aload_n 0, 1) := by decide +kernel
theorem dX6_restarts_78 : decode cX6_restarts 78 = .ok (.iload 6, 2) := by decide +kernel
theorem dX6_restarts_80 : decode cX6_restarts 80 = .ok (.iconst 0, 1) := by decide +kernel
theorem dX6_restarts_81 : decode cX6_restarts 81 = .ok (.iconst 0, 1) := by decide +kernel
theorem dX6_restarts_82 : decode cX6_restarts 82 = .ok (.invokevirtual 92, 3) := by decide +kernel
theorem dX6_restarts_85 : decode cX6_restarts 85 = .ok (.pop, 1) := by decide +kernel
theorem dX6_restarts_86 : decode cX6_restarts 86 = .ok (.aload_n 0, 1) := by decide +kernel
theorem dX6_restarts_87 : decode cX6_restarts 87 = .ok (.getfield 23, 3) := by decide +kernel
theorem dX6_restarts_90 : decode cX6_restarts 90 = .ok (.iload 6, 2) := by decide +kernel
theorem dX6_restarts_92 : decode cX6_restarts 92 = .ok (.iaload, 1) := by decide +kernel
theorem dX6_restarts_93 : decode cX6_restarts 93 = .ok (.iconst 2, 1) := by decide +kernel
theorem dX6_restarts_94 : decode cX6_restarts 94 = .ok (.if_icmp .ne 10, 3) := by decide +kernel
theorem dX6_restarts_97 : decode cX6_restarts 97 = .ok (.aload_n 0, 1) := by decide +kernel
theorem dX6_restarts_98 : decode cX6_restarts 98 = .ok (.iload 6, 2) := by decide +kernel
theorem dX6_restarts_100 : decode cX6_restarts 100 = .ok (.invokevirtual 103, 3) := by decide +kernel
theorem dX6_restarts_103 : decode cX6_restarts 103 = .ok (.pop, 1) := by decide +kernel
theorem dX6_restarts_104 : decode cX6_restarts 104 = .ok (.iinc 5 (-1), 3) := by decide +kernel
theorem dX6_restarts_107 : decode cX6_restarts 107 = .ok (.goto (-61), 3) := by decide +kernel
theorem dX6_restarts_110 : decode cX6_restarts 110 = .ok (.aload_n 0, 1) := by decide +kernel
theorem dX6_restarts_111 : decode cX6_restarts 111 = .ok (.getfield 50, 3) := by decide +kernel
theorem dX6_restarts_114 : decode cX6_restarts 114 = .ok (.iload_n 1, 1) := by decide +kernel
theorem dX6_restarts_115 : decode cX6_restarts 115 = .ok (.iaload, 1) := by decide +kernel
theorem dX6_restarts_116 : decode cX6_restarts 116 = .ok (.istore 4, 2) := by decide +kernel
theorem dX6_restarts_118 : decode cX6_restarts 118 = .ok (.iload_n 3, 1) := by decide +kernel
theorem dX6_restarts_119 : decode cX6_restarts 119 = .ok (.istore 5, 2) := by decide +kernel
theorem dX6_restarts_121 : decode cX6_restarts 121 = .ok (.iload 5, 2) := by decide +kernel
theorem dX6_restarts_123 : decode cX6_restarts 123 = .ok (.iload 4, 2) := by decide +kernel
theorem dX6_restarts_125 : decode cX6_restarts 125 = .ok (.if_icmp .ge 35, 3) := by decide +kernel
theorem dX6_restarts_128 : decode cX6_restarts 128 = .ok (.aload_n 0, 1) := by decide +kernel
theorem dX6_restarts_129 : decode cX6_restarts 129 = .ok (.getfield 47, 3) := by decide +kernel
theorem dX6_restarts_132 : decode cX6_restarts 132 = .ok (.bipush 80, 2) := by decide +kernel
theorem dX6_restarts_134 : decode cX6_restarts 134 = .ok (.iload_n 1, 1) := by decide +kernel
theorem dX6_restarts_135 : decode cX6_restarts 135 = .ok (.imul, 1) := by decide +kernel
theorem dX6_restarts_136 : decode cX6_restarts 136 = .ok (.iload 5, 2) := by decide +kernel
theorem dX6_restarts_138 : decode cX6_restarts 138 = .ok (.iadd, 1) := by decide +kernel
theorem dX6_restarts_139 : decode cX6_restarts 139 = .ok (.iaload, 1) := by decide +kernel
theorem dX6_restarts_140 : decode cX6_restarts 140 = .ok (.istore 6, 2) := by decide +kernel
theorem dX6_restarts_142 : decode cX6_restarts 142 = .ok (.aload_n 0, 1) := by decide +kernel
theorem dX6_restarts_143 : decode cX6_restarts 143 = .ok (.iload 6, 2) := by decide +kernel
theorem dX6_restarts_145 : decode cX6_restarts 145 = .ok (.invokevirtual 115, 3) := by decide +kernel
theorem dX6_restarts_148 : decode cX6_restarts 148 = .ok (.ifCond .ne 6, 3) := by decide +kernel
theorem dX6_restarts_151 : decode cX6_restarts 151 = .ok (.iload 6, 2) := by decide +kernel
theorem dX6_restarts_153 : decode cX6_restarts 153 = .ok (.ireturn, 1) := by decide +kernel
theorem dX6_restarts_154 : decode cX6_restarts 154 = .ok (.iinc 5 1, 3) := by decide +kernel
theorem dX6_restarts_157 : decode cX6_restarts 157 = .ok (.goto (-36), 3) := by decide +kernel
theorem dX6_restarts_160 : decode cX6_restarts 160 = .ok (.iconst (-1), 1) := by decide +kernel
theorem dX6_restarts_161 : decode cX6_restarts 161 = .ok (.ireturn, 1) := by decide +kernel
theorem dX6_isKeeping_0 : decode cX6_isKeeping 0 = .ok (.iload_n 0, 1) := by decide +kernel
theorem dX6_isKeeping_1 : decode cX6_isKeeping 1 = .ok (.iconst 0, 1) := by decide +kernel
theorem dX6_isKeeping_2 : decode cX6_isKeeping 2 = .ok (.iconst 2, 1) := by decide +kernel
theorem dX6_isKeeping_3 : decode cX6_isKeeping 3 = .ok (.invokestatic 118, 3) := by decide +kernel
theorem dX6_isKeeping_6 : decode cX6_isKeeping 6 = .ok (.ifCond .eq 28, 3) := by decide +kernel
theorem dX6_isKeeping_9 : decode cX6_isKeeping 9 = .ok (.iload_n 1, 1) := by decide +kernel
theorem dX6_isKeeping_10 : decode cX6_isKeeping 10 = .ok (.iconst 0, 1) := by decide +kernel
theorem dX6_isKeeping_11 : decode cX6_isKeeping 11 = .ok (.bipush 50, 2) := by decide +kernel
theorem dX6_isKeeping_13 : decode cX6_isKeeping 13 = .ok (.invokestatic 118, 3) := by decide +kernel
theorem dX6_isKeeping_16 : decode cX6_isKeeping 16 = .ok (.ifCond .eq 18, 3) := by decide +kernel
theorem dX6_isKeeping_19 : decode cX6_isKeeping 19 = .ok (.iload_n 2, 1) := by decide +kernel
theorem dX6_isKeeping_20 : decode cX6_isKeeping 20 = .ok (.iconst 1, 1) := by decide +kernel
theorem dX6_isKeeping_21 : decode cX6_isKeeping 21 = .ok (.sipush 1000, 3) := by decide +kernel
theorem dX6_isKeeping_24 : decode cX6_isKeeping 24 = .ok (.invokestatic 118, 3) := by decide +kernel
theorem dX6_isKeeping_27 : decode cX6_isKeeping 27 = .ok (.ifCond .eq 7, 3) := by decide +kernel
theorem dX6_isKeeping_30 : decode cX6_isKeeping 30 = .ok (.iconst 1, 1) := by decide +kernel
theorem dX6_isKeeping_31 : decode cX6_isKeeping 31 = .ok (.goto 4, 3) := by decide +kernel
theorem dX6_isKeeping_34 : decode cX6_isKeeping 34 = .ok (.iconst 0, 1) := by decide +kernel
theorem dX6_isKeeping_35 : decode cX6_isKeeping 35 = .ok (.ireturn, 1) := by decide +kernel
theorem dX6_first_0 : decode cX6_first 0 = .ok (.aload_n 0, 1) := by decide +kernel
theorem dX6_first_1 : decode cX6_first 1 = .ok (.iload_n 1, 1) := by decide +kernel
theorem dX6_first_2 : decode cX6_first 2 = .ok (.iload_n 2, 1) := by decide +kernel
theorem dX6_first_3 : decode cX6_first 3 = .ok (.iload_n 3, 1) := by decide +kernel
theorem dX6_first_4 : decode cX6_first 4 = .ok (.invokestatic 122, 3) := by decide +kernel
theorem dX6_first_7 : decode cX6_first 7 = .ok (.ifCond .ne 7, 3) := by decide +kernel
theorem dX6_first_10 : decode cX6_first 10 = .ok (.iconst 1, 1) := by decide +kernel
theorem dX6_first_11 : decode cX6_first 11 = .ok (.goto 18, 3) := by decide +kernel
theorem dX6_first_14 : decode cX6_first 14 = .ok (.aload_n 0, 1) := by decide +kernel
theorem dX6_first_15 : decode cX6_first 15 = .ok (.getfield 20, 3) := by decide +kernel
theorem dX6_first_18 : decode cX6_first 18 = .ok (.iconst 0, 1) := by decide +kernel
theorem dX6_first_19 : decode cX6_first 19 = .ok (.iaload, 1) := by decide +kernel
theorem dX6_first_20 : decode cX6_first 20 = .ok (.iconst 1, 1) := by decide +kernel
theorem dX6_first_21 : decode cX6_first 21 = .ok (.if_icmp .ne 7, 3) := by decide +kernel
theorem dX6_first_24 : decode cX6_first 24 = .ok (.iconst 2, 1) := by decide +kernel
theorem dX6_first_25 : decode cX6_first 25 = .ok (.goto 4, 3) := by decide +kernel
theorem dX6_first_28 : decode cX6_first 28 = .ok (.iconst 0, 1) := by decide +kernel
theorem dX6_first_29 : decode cX6_first 29 = .ok (.invokevirtual 125, 3) := by decide +kernel
theorem dX6_first_32 : decode cX6_first 32 = .ok (.ifCond .eq 4, 3) := by decide +kernel
theorem dX6_first_35 : decode cX6_first 35 = .ok (.return_, 1) := by decide +kernel
theorem dX6_first_36 : decode cX6_first 36 = .ok (.aload_n 0, 1) := by decide +kernel
theorem dX6_first_37 : decode cX6_first 37 = .ok (.getfield 26, 3) := by decide +kernel
theorem dX6_first_40 : decode cX6_first 40 = .ok (.iconst 0, 1) := by decide +kernel
theorem dX6_first_41 : decode cX6_first 41 = .ok (.iload_n 1, 1) := by decide +kernel
theorem dX6_first_42 : decode cX6_first 42 = .ok (.iastore, 1) := by decide +kernel
theorem dX6_first_43 : decode cX6_first 43 = .ok (.aload_n 0, 1) := by decide +kernel
theorem dX6_first_44 : decode cX6_first 44 = .ok (.getfield 29, 3) := by decide +kernel
theorem dX6_first_47 : decode cX6_first 47 = .ok (.iconst 0, 1) := by decide +kernel
theorem dX6_first_48 : decode cX6_first 48 = .ok (.iload_n 2, 1) := by decide +kernel
theorem dX6_first_49 : decode cX6_first 49 = .ok (.iastore, 1) := by decide +kernel
theorem dX6_first_50 : decode cX6_first 50 = .ok (.aload_n 0, 1) := by decide +kernel
theorem dX6_first_51 : decode cX6_first 51 = .ok (.getfield 32, 3) := by decide +kernel
theorem dX6_first_54 : decode cX6_first 54 = .ok (.iconst 0, 1) := by decide +kernel
theorem dX6_first_55 : decode cX6_first 55 = .ok (.iload_n 3, 1) := by decide +kernel
theorem dX6_first_56 : decode cX6_first 56 = .ok (.iastore, 1) := by decide +kernel
theorem dX6_first_57 : decode cX6_first 57 = .ok (.return_, 1) := by decide +kernel
theorem dX6_child_0 : decode cX6_child 0 = .ok (.aload_n 0, 1) := by decide +kernel
theorem dX6_child_1 : decode cX6_child 1 = .ok (.getfield 68, 3) := by decide +kernel
theorem dX6_child_4 : decode cX6_child 4 = .ok (.istore 4, 2) := by decide +kernel
theorem dX6_child_6 : decode cX6_child 6 = .ok (.aload_n 0, 1) := by decide +kernel
theorem dX6_child_7 : decode cX6_child 7 = .ok (.dup, 1) := by decide +kernel
theorem dX6_child_8 : decode cX6_child 8 = .ok (.getfield 68, 3) := by decide +kernel
theorem dX6_child_11 : decode cX6_child 11 = .ok (.iconst 1, 1) := by decide +kernel
theorem dX6_child_12 : decode cX6_child 12 = .ok (.iadd, 1) := by decide +kernel
theorem dX6_child_13 : decode cX6_child 13 = .ok (.putfield 68, 3) := by decide +kernel
theorem dX6_child_16 : decode cX6_child 16 = .ok (.aload_n 0, 1) := by decide +kernel
theorem dX6_child_17 : decode cX6_child 17 = .ok (.getfield 7, 3) := by decide +kernel
theorem dX6_child_20 : decode cX6_child 20 = .ok (.iload 4, 2) := by decide +kernel
theorem dX6_child_22 : decode cX6_child 22 = .ok (.iload_n 3, 1) := by decide +kernel
theorem dX6_child_23 : decode cX6_child 23 = .ok (.bastore, 1) := by decide +kernel
theorem dX6_child_24 : decode cX6_child 24 = .ok (.aload_n 0, 1) := by decide +kernel
theorem dX6_child_25 : decode cX6_child 25 = .ok (.getfield 13, 3) := by decide +kernel
theorem dX6_child_28 : decode cX6_child 28 = .ok (.iload 4, 2) := by decide +kernel
theorem dX6_child_30 : decode cX6_child 30 = .ok (.iload_n 1, 1) := by decide +kernel
theorem dX6_child_31 : decode cX6_child 31 = .ok (.iastore, 1) := by decide +kernel
theorem dX6_child_32 : decode cX6_child 32 = .ok (.aload_n 0, 1) := by decide +kernel
theorem dX6_child_33 : decode cX6_child 33 = .ok (.getfield 17, 3) := by decide +kernel
theorem dX6_child_36 : decode cX6_child 36 = .ok (.iload 4, 2) := by decide +kernel
theorem dX6_child_38 : decode cX6_child 38 = .ok (.aload_n 0, 1) := by decide +kernel
theorem dX6_child_39 : decode cX6_child 39 = .ok (.getfield 17, 3) := by decide +kernel
theorem dX6_child_42 : decode cX6_child 42 = .ok (.iload_n 1, 1) := by decide +kernel
theorem dX6_child_43 : decode cX6_child 43 = .ok (.iaload, 1) := by decide +kernel
theorem dX6_child_44 : decode cX6_child 44 = .ok (.iconst 1, 1) := by decide +kernel
theorem dX6_child_45 : decode cX6_child 45 = .ok (.iadd, 1) := by decide +kernel
theorem dX6_child_46 : decode cX6_child 46 = .ok (.iastore, 1) := by decide +kernel
theorem dX6_child_47 : decode cX6_child 47 = .ok (.aload_n 0, 1) := by decide +kernel
theorem dX6_child_48 : decode cX6_child 48 = .ok (.getfield 23, 3) := by decide +kernel
theorem dX6_child_51 : decode cX6_child 51 = .ok (.iload 4, 2) := by decide +kernel
theorem dX6_child_53 : decode cX6_child 53 = .ok (.iload_n 2, 1) := by decide +kernel
theorem dX6_child_54 : decode cX6_child 54 = .ok (.iastore, 1) := by decide +kernel
theorem dX6_child_55 : decode cX6_child 55 = .ok (.aload_n 0, 1) := by decide +kernel
theorem dX6_child_56 : decode cX6_child 56 = .ok (.getfield 47, 3) := by decide +kernel
theorem dX6_child_59 : decode cX6_child 59 = .ok (.bipush 80, 2) := by decide +kernel
theorem dX6_child_61 : decode cX6_child 61 = .ok (.iload_n 1, 1) := by decide +kernel
theorem dX6_child_62 : decode cX6_child 62 = .ok (.imul, 1) := by decide +kernel
theorem dX6_child_63 : decode cX6_child 63 = .ok (.aload_n 0, 1) := by decide +kernel
theorem dX6_child_64 : decode cX6_child 64 = .ok (.getfield 50, 3) := by decide +kernel
theorem dX6_child_67 : decode cX6_child 67 = .ok (.iload_n 1, 1) := by decide +kernel
theorem dX6_child_68 : decode cX6_child 68 = .ok (.iaload, 1) := by decide +kernel
theorem dX6_child_69 : decode cX6_child 69 = .ok (.iadd, 1) := by decide +kernel
theorem dX6_child_70 : decode cX6_child 70 = .ok (.iload 4, 2) := by decide +kernel
theorem dX6_child_72 : decode cX6_child 72 = .ok (.iastore, 1) := by decide +kernel
theorem dX6_child_73 : decode cX6_child 73 = .ok (.aload_n 0, 1) := by decide +kernel
theorem dX6_child_74 : decode cX6_child 74 = .ok (.getfield 50, 3) := by decide +kernel
theorem dX6_child_77 : decode cX6_child 77 = .ok (.iload_n 1, 1) := by decide +kernel
theorem dX6_child_78 : decode cX6_child 78 = .ok (.dup2, 1) := by decide +kernel
theorem dX6_child_79 : decode cX6_child 79 = .ok (.iaload, 1) := by decide +kernel
theorem dX6_child_80 : decode cX6_child 80 = .ok (.iconst 1, 1) := by decide +kernel
theorem dX6_child_81 : decode cX6_child 81 = .ok (.iadd, 1) := by decide +kernel
theorem dX6_child_82 : decode cX6_child 82 = .ok (.iastore, 1) := by decide +kernel
theorem dX6_child_83 : decode cX6_child 83 = .ok (.iload 4, 2) := by decide +kernel
theorem dX6_child_85 : decode cX6_child 85 = .ok (.ireturn, 1) := by decide +kernel
theorem dX6_keeper_0 : decode cX6_keeper 0 = .ok (.aload_n 0, 1) := by decide +kernel
theorem dX6_keeper_1 : decode cX6_keeper 1 = .ok (.iload_n 1, 1) := by decide +kernel
theorem dX6_keeper_2 : decode cX6_keeper 2 = .ok (.invokevirtual 128, 3) := by decide +kernel
theorem dX6_keeper_5 : decode cX6_keeper 5 = .ok (.ifCond .eq 27, 3) := by decide +kernel
theorem dX6_keeper_8 : decode cX6_keeper 8 = .ok (.iload_n 2, 1) := by decide +kernel
theorem dX6_keeper_9 : decode cX6_keeper 9 = .ok (.iconst 0, 1) := by decide +kernel
theorem dX6_keeper_10 : decode cX6_keeper 10 = .ok (.iconst 2, 1) := by decide +kernel
theorem dX6_keeper_11 : decode cX6_keeper 11 = .ok (.invokestatic 118, 3) := by decide +kernel
theorem dX6_keeper_14 : decode cX6_keeper 14 = .ok (.ifCond .eq 18, 3) := by decide +kernel
theorem dX6_keeper_17 : decode cX6_keeper 17 = .ok (.iload_n 3, 1) := by decide +kernel
theorem dX6_keeper_18 : decode cX6_keeper 18 = .ok (.iload 4, 2) := by decide +kernel
theorem dX6_keeper_20 : decode cX6_keeper 20 = .ok (.iload 5, 2) := by decide +kernel
theorem dX6_keeper_22 : decode cX6_keeper 22 = .ok (.invokestatic 122, 3) := by decide +kernel
theorem dX6_keeper_25 : decode cX6_keeper 25 = .ok (.ifCond .eq 7, 3) := by decide +kernel
theorem dX6_keeper_28 : decode cX6_keeper 28 = .ok (.iconst 1, 1) := by decide +kernel
theorem dX6_keeper_29 : decode cX6_keeper 29 = .ok (.goto 4, 3) := by decide +kernel
theorem dX6_keeper_32 : decode cX6_keeper 32 = .ok (.iconst 0, 1) := by decide +kernel
theorem dX6_keeper_33 : decode cX6_keeper 33 = .ok (.istore 6, 2) := by decide +kernel
theorem dX6_keeper_35 : decode cX6_keeper 35 = .ok (.aload_n 0, 1) := by decide +kernel
theorem dX6_keeper_36 : decode cX6_keeper 36 = .ok (.iload 6, 2) := by decide +kernel
theorem dX6_keeper_38 : decode cX6_keeper 38 = .ok (.ifCond .ne 7, 3) := by decide +kernel
theorem dX6_keeper_41 : decode cX6_keeper 41 = .ok (.iconst 1, 1) := by decide +kernel
theorem dX6_keeper_42 : decode cX6_keeper 42 = .ok (.goto 28, 3) := by decide +kernel
theorem dX6_keeper_45 : decode cX6_keeper 45 = .ok (.aload_n 0, 1) := by decide +kernel
theorem dX6_keeper_46 : decode cX6_keeper 46 = .ok (.getfield 68, 3) := by decide +kernel
theorem dX6_keeper_49 : decode cX6_keeper 49 = .ok (.bipush 80, 2) := by decide +kernel
theorem dX6_keeper_51 : decode cX6_keeper 51 = .ok (.if_icmp .eq 14, 3) := by decide +kernel
theorem dX6_keeper_54 : decode cX6_keeper 54 = .ok (.aload_n 0, 1) := by decide +kernel
theorem dX6_keeper_55 : decode cX6_keeper 55 = .ok (.getfield 17, 3) := by decide +kernel
theorem dX6_keeper_58 : decode cX6_keeper 58 = .ok (.iload_n 1, 1) := by decide +kernel
theorem dX6_keeper_59 : decode cX6_keeper 59 = .ok (.iaload, 1) := by decide +kernel
theorem dX6_keeper_60 : decode cX6_keeper 60 = .ok (.bipush 8, 2) := by decide +kernel
theorem dX6_keeper_62 : decode cX6_keeper 62 = .ok (.if_icmp .ne 7, 3) := by decide +kernel
theorem dX6_keeper_65 : decode cX6_keeper 65 = .ok (.iconst 2, 1) := by decide +kernel
theorem dX6_keeper_66 : decode cX6_keeper 66 = .ok (.goto 4, 3) := by decide +kernel
theorem dX6_keeper_69 : decode cX6_keeper 69 = .ok (.iconst 0, 1) := by decide +kernel
theorem dX6_keeper_70 : decode cX6_keeper 70 = .ok (.invokevirtual 125, 3) := by decide +kernel
theorem dX6_keeper_73 : decode cX6_keeper 73 = .ok (.ifCond .eq 5, 3) := by decide +kernel
theorem dX6_keeper_76 : decode cX6_keeper 76 = .ok (.iconst 0, 1) := by decide +kernel
theorem dX6_keeper_77 : decode cX6_keeper 77 = .ok (.ireturn, 1) := by decide +kernel
theorem dX6_keeper_78 : decode cX6_keeper 78 = .ok (.aload_n 0, 1) := by decide +kernel
theorem dX6_keeper_79 : decode cX6_keeper 79 = .ok (.iload_n 1, 1) := by decide +kernel
theorem dX6_keeper_80 : decode cX6_keeper 80 = .ok (.iload_n 2, 1) := by decide +kernel
theorem dX6_keeper_81 : decode cX6_keeper 81 = .ok (.iconst 1, 1) := by decide +kernel
theorem dX6_keeper_82 : decode cX6_keeper 82 = .ok (.invokevirtual 131, 3) := by decide +kernel
theorem dX6_keeper_85 : decode cX6_keeper 85 = .ok (.istore 7, 2) := by decide +kernel
theorem dX6_keeper_87 : decode cX6_keeper 87 = .ok (.aload_n 0, 1) := by decide +kernel
theorem dX6_keeper_88 : decode cX6_keeper 88 = .ok (.getfield 26, 3) := by decide +kernel
theorem dX6_keeper_91 : decode cX6_keeper 91 = .ok (.iload 7, 2) := by decide +kernel
theorem dX6_keeper_93 : decode cX6_keeper 93 = .ok (.iload_n 3, 1) := by decide +kernel
theorem dX6_keeper_94 : decode cX6_keeper 94 = .ok (.iastore, 1) := by decide +kernel
theorem dX6_keeper_95 : decode cX6_keeper 95 = .ok (.aload_n 0, 1) := by decide +kernel
theorem dX6_keeper_96 : decode cX6_keeper 96 = .ok (.getfield 29, 3) := by decide +kernel
theorem dX6_keeper_99 : decode cX6_keeper 99 = .ok (.iload 7, 2) := by decide +kernel
theorem dX6_keeper_101 : decode cX6_keeper 101 = .ok (.iload 4, 2) := by decide +kernel
theorem dX6_keeper_103 : decode cX6_keeper 103 = .ok (.iastore, 1) := by decide +kernel
theorem dX6_keeper_104 : decode cX6_keeper 104 = .ok (.aload_n 0, 1) := by decide +kernel
theorem dX6_keeper_105 : decode cX6_keeper 105 = .ok (.getfield 32, 3) := by decide +kernel
theorem dX6_keeper_108 : decode cX6_keeper 108 = .ok (.iload 7, 2) := by decide +kernel
theorem dX6_keeper_110 : decode cX6_keeper 110 = .ok (.iload 5, 2) := by decide +kernel
theorem dX6_keeper_112 : decode cX6_keeper 112 = .ok (.iastore, 1) := by decide +kernel
theorem dX6_keeper_113 : decode cX6_keeper 113 = .ok (.aload_n 0, 1) := by decide +kernel
theorem dX6_keeper_114 : decode cX6_keeper 114 = .ok (.getfield 20, 3) := by decide +kernel
theorem dX6_keeper_117 : decode cX6_keeper 117 = .ok (.iload_n 1, 1) := by decide +kernel
theorem dX6_keeper_118 : decode cX6_keeper 118 = .ok (.iaload, 1) := by decide +kernel
theorem dX6_keeper_119 : decode cX6_keeper 119 = .ok (.iconst 1, 1) := by decide +kernel
theorem dX6_keeper_120 : decode cX6_keeper 120 = .ok (.if_icmp .ne 10, 3) := by decide +kernel
theorem dX6_keeper_123 : decode cX6_keeper 123 = .ok (.aload_n 0, 1) := by decide +kernel
theorem dX6_keeper_124 : decode cX6_keeper 124 = .ok (.iload 7, 2) := by decide +kernel
theorem dX6_keeper_126 : decode cX6_keeper 126 = .ok (.invokevirtual 115, 3) := by decide +kernel
theorem dX6_keeper_129 : decode cX6_keeper 129 = .ok (.pop, 1) := by decide +kernel
theorem dX6_keeper_130 : decode cX6_keeper 130 = .ok (.iload 7, 2) := by decide +kernel
theorem dX6_keeper_132 : decode cX6_keeper 132 = .ok (.ireturn, 1) := by decide +kernel
theorem dX6_worker_0 : decode cX6_worker 0 = .ok (.aload_n 0, 1) := by decide +kernel
theorem dX6_worker_1 : decode cX6_worker 1 = .ok (.iload_n 1, 1) := by decide +kernel
theorem dX6_worker_2 : decode cX6_worker 2 = .ok (.invokevirtual 128, 3) := by decide +kernel
theorem dX6_worker_5 : decode cX6_worker 5 = .ok (.ifCond .eq 60, 3) := by decide +kernel
theorem dX6_worker_8 : decode cX6_worker 8 = .ok (.iload_n 2, 1) := by decide +kernel
theorem dX6_worker_9 : decode cX6_worker 9 = .ok (.iconst 0, 1) := by decide +kernel
theorem dX6_worker_10 : decode cX6_worker 10 = .ok (.iconst 2, 1) := by decide +kernel
theorem dX6_worker_11 : decode cX6_worker 11 = .ok (.invokestatic 118, 3) := by decide +kernel
theorem dX6_worker_14 : decode cX6_worker 14 = .ok (.ifCond .eq 51, 3) := by decide +kernel
theorem dX6_worker_17 : decode cX6_worker 17 = .ok (.iload_n 3, 1) := by decide +kernel
theorem dX6_worker_18 : decode cX6_worker 18 = .ok (.iconst (-1), 1) := by decide +kernel
theorem dX6_worker_19 : decode cX6_worker 19 = .ok (.sipush 1000, 3) := by decide +kernel
theorem dX6_worker_22 : decode cX6_worker 22 = .ok (.invokestatic 118, 3) := by decide +kernel
theorem dX6_worker_25 : decode cX6_worker 25 = .ok (.ifCond .eq 40, 3) := by decide +kernel
theorem dX6_worker_28 : decode cX6_worker 28 = .ok (.iload 4, 2) := by decide +kernel
theorem dX6_worker_30 : decode cX6_worker 30 = .ok (.iconst 0, 1) := by decide +kernel
theorem dX6_worker_31 : decode cX6_worker 31 = .ok (.bipush 100, 2) := by decide +kernel
theorem dX6_worker_33 : decode cX6_worker 33 = .ok (.invokestatic 118, 3) := by decide +kernel
theorem dX6_worker_36 : decode cX6_worker 36 = .ok (.ifCond .eq 29, 3) := by decide +kernel
theorem dX6_worker_39 : decode cX6_worker 39 = .ok (.iload 5, 2) := by decide +kernel
theorem dX6_worker_41 : decode cX6_worker 41 = .ok (.iconst 0, 1) := by decide +kernel
theorem dX6_worker_42 : decode cX6_worker 42 = .ok (.bipush 100, 2) := by decide +kernel
theorem dX6_worker_44 : decode cX6_worker 44 = .ok (.invokestatic 118, 3) := by decide +kernel
theorem dX6_worker_47 : decode cX6_worker 47 = .ok (.ifCond .eq 18, 3) := by decide +kernel
theorem dX6_worker_50 : decode cX6_worker 50 = .ok (.iload 6, 2) := by decide +kernel
theorem dX6_worker_52 : decode cX6_worker 52 = .ok (.iconst 0, 1) := by decide +kernel
theorem dX6_worker_53 : decode cX6_worker 53 = .ok (.bipush 50, 2) := by decide +kernel
theorem dX6_worker_55 : decode cX6_worker 55 = .ok (.invokestatic 118, 3) := by decide +kernel
theorem dX6_worker_58 : decode cX6_worker 58 = .ok (.ifCond .eq 7, 3) := by decide +kernel
theorem dX6_worker_61 : decode cX6_worker 61 = .ok (.iconst 1, 1) := by decide +kernel
theorem dX6_worker_62 : decode cX6_worker 62 = .ok (.goto 4, 3) := by decide +kernel
theorem dX6_worker_65 : decode cX6_worker 65 = .ok (.iconst 0, 1) := by decide +kernel
theorem dX6_worker_66 : decode cX6_worker 66 = .ok (.istore 7, 2) := by decide +kernel
theorem dX6_worker_68 : decode cX6_worker 68 = .ok (.aload_n 0, 1) := by decide +kernel
theorem dX6_worker_69 : decode cX6_worker 69 = .ok (.iload 7, 2) := by decide +kernel
theorem dX6_worker_71 : decode cX6_worker 71 = .ok (.ifCond .ne 7, 3) := by decide +kernel
theorem dX6_worker_74 : decode cX6_worker 74 = .ok (.iconst 1, 1) := by decide +kernel
theorem dX6_worker_75 : decode cX6_worker 75 = .ok (.goto 28, 3) := by decide +kernel
theorem dX6_worker_78 : decode cX6_worker 78 = .ok (.aload_n 0, 1) := by decide +kernel
theorem dX6_worker_79 : decode cX6_worker 79 = .ok (.getfield 68, 3) := by decide +kernel
theorem dX6_worker_82 : decode cX6_worker 82 = .ok (.bipush 80, 2) := by decide +kernel
theorem dX6_worker_84 : decode cX6_worker 84 = .ok (.if_icmp .eq 14, 3) := by decide +kernel
theorem dX6_worker_87 : decode cX6_worker 87 = .ok (.aload_n 0, 1) := by decide +kernel
theorem dX6_worker_88 : decode cX6_worker 88 = .ok (.getfield 17, 3) := by decide +kernel
theorem dX6_worker_91 : decode cX6_worker 91 = .ok (.iload_n 1, 1) := by decide +kernel
theorem dX6_worker_92 : decode cX6_worker 92 = .ok (.iaload, 1) := by decide +kernel
theorem dX6_worker_93 : decode cX6_worker 93 = .ok (.bipush 8, 2) := by decide +kernel
theorem dX6_worker_95 : decode cX6_worker 95 = .ok (.if_icmp .ne 7, 3) := by decide +kernel
theorem dX6_worker_98 : decode cX6_worker 98 = .ok (.iconst 2, 1) := by decide +kernel
theorem dX6_worker_99 : decode cX6_worker 99 = .ok (.goto 4, 3) := by decide +kernel
theorem dX6_worker_102 : decode cX6_worker 102 = .ok (.iconst 0, 1) := by decide +kernel
theorem dX6_worker_103 : decode cX6_worker 103 = .ok (.invokevirtual 125, 3) := by decide +kernel
theorem dX6_worker_106 : decode cX6_worker 106 = .ok (.ifCond .eq 5, 3) := by decide +kernel
theorem dX6_worker_109 : decode cX6_worker 109 = .ok (.iconst 0, 1) := by decide +kernel
theorem dX6_worker_110 : decode cX6_worker 110 = .ok (.ireturn, 1) := by decide +kernel
theorem dX6_worker_111 : decode cX6_worker 111 = .ok (.aload_n 0, 1) := by decide +kernel
theorem dX6_worker_112 : decode cX6_worker 112 = .ok (.iload_n 1, 1) := by decide +kernel
theorem dX6_worker_113 : decode cX6_worker 113 = .ok (.iload_n 2, 1) := by decide +kernel
theorem dX6_worker_114 : decode cX6_worker 114 = .ok (.iconst 0, 1) := by decide +kernel
theorem dX6_worker_115 : decode cX6_worker 115 = .ok (.invokevirtual 131, 3) := by decide +kernel
theorem dX6_worker_118 : decode cX6_worker 118 = .ok (.istore 8, 2) := by decide +kernel
theorem dX6_worker_120 : decode cX6_worker 120 = .ok (.aload_n 0, 1) := by decide +kernel
theorem dX6_worker_121 : decode cX6_worker 121 = .ok (.getfield 35, 3) := by decide +kernel
theorem dX6_worker_124 : decode cX6_worker 124 = .ok (.iload 8, 2) := by decide +kernel
theorem dX6_worker_126 : decode cX6_worker 126 = .ok (.iload_n 3, 1) := by decide +kernel
theorem dX6_worker_127 : decode cX6_worker 127 = .ok (.iastore, 1) := by decide +kernel
theorem dX6_worker_128 : decode cX6_worker 128 = .ok (.aload_n 0, 1) := by decide +kernel
theorem dX6_worker_129 : decode cX6_worker 129 = .ok (.getfield 38, 3) := by decide +kernel
theorem dX6_worker_132 : decode cX6_worker 132 = .ok (.iload 8, 2) := by decide +kernel
theorem dX6_worker_134 : decode cX6_worker 134 = .ok (.iload 4, 2) := by decide +kernel
theorem dX6_worker_136 : decode cX6_worker 136 = .ok (.iastore, 1) := by decide +kernel
theorem dX6_worker_137 : decode cX6_worker 137 = .ok (.aload_n 0, 1) := by decide +kernel
theorem dX6_worker_138 : decode cX6_worker 138 = .ok (.getfield 41, 3) := by decide +kernel
theorem dX6_worker_141 : decode cX6_worker 141 = .ok (.iload 8, 2) := by decide +kernel
theorem dX6_worker_143 : decode cX6_worker 143 = .ok (.iload 5, 2) := by decide +kernel
theorem dX6_worker_145 : decode cX6_worker 145 = .ok (.iastore, 1) := by decide +kernel
theorem dX6_worker_146 : decode cX6_worker 146 = .ok (.aload_n 0, 1) := by decide +kernel
theorem dX6_worker_147 : decode cX6_worker 147 = .ok (.getfield 44, 3) := by decide +kernel
theorem dX6_worker_150 : decode cX6_worker 150 = .ok (.iload 8, 2) := by decide +kernel
theorem dX6_worker_152 : decode cX6_worker 152 = .ok (.iload 6, 2) := by decide +kernel
theorem dX6_worker_154 : decode cX6_worker 154 = .ok (.iastore, 1) := by decide +kernel
theorem dX6_worker_155 : decode cX6_worker 155 = .ok (.aload_n 0, 1) := by decide +kernel
theorem dX6_worker_156 : decode cX6_worker 156 = .ok (.getfield 20, 3) := by decide +kernel
theorem dX6_worker_159 : decode cX6_worker 159 = .ok (.iload_n 1, 1) := by decide +kernel
theorem dX6_worker_160 : decode cX6_worker 160 = .ok (.iaload, 1) := by decide +kernel
theorem dX6_worker_161 : decode cX6_worker 161 = .ok (.iconst 1, 1) := by decide +kernel
theorem dX6_worker_162 : decode cX6_worker 162 = .ok (.if_icmp .ne 21, 3) := by decide +kernel
theorem dX6_worker_165 : decode cX6_worker 165 = .ok (.aload_n 0, 1) := by decide +kernel
theorem dX6_worker_166 : decode cX6_worker 166 = .ok (.iload 8, 2) := by decide +kernel
theorem dX6_worker_168 : decode cX6_worker 168 = .ok (.invokevirtual 115, 3) := by decide +kernel
theorem dX6_worker_171 : decode cX6_worker 171 = .ok (.ifCond .ne 12, 3) := by decide +kernel
theorem dX6_worker_174 : decode cX6_worker 174 = .ok (.aload_n 0, 1) := by decide +kernel
theorem dX6_worker_175 : decode cX6_worker 175 = .ok (.iload 8, 2) := by decide +kernel
theorem dX6_worker_177 : decode cX6_worker 177 = .ok (.invokevirtual 103, 3) := by decide +kernel
theorem dX6_worker_180 : decode cX6_worker 180 = .ok (.pop, 1) := by decide +kernel
theorem dX6_worker_181 : decode cX6_worker 181 = .ok (.iconst (-1), 1) := by decide +kernel
theorem dX6_worker_182 : decode cX6_worker 182 = .ok (.ireturn, 1) := by decide +kernel
theorem dX6_worker_183 : decode cX6_worker 183 = .ok (.iload 8, 2) := by decide +kernel
theorem dX6_worker_185 : decode cX6_worker 185 = .ok (.ireturn, 1) := by decide +kernel
theorem dX6_failing_0 : decode cX6_failing 0 = .ok (.aload_n 0, 1) := by decide +kernel
theorem dX6_failing_1 : decode cX6_failing 1 = .ok (.aload_n 0, 1) := by decide +kernel
theorem dX6_failing_2 : decode cX6_failing 2 = .ok (.iload_n 1, 1) := by decide +kernel
theorem dX6_failing_3 : decode cX6_failing 3 = .ok (.invokevirtual 134, 3) := by decide +kernel
theorem dX6_failing_6 : decode cX6_failing 6 = .ok (.ifCond .eq 13, 3) := by decide +kernel
theorem dX6_failing_9 : decode cX6_failing 9 = .ok (.iload_n 2, 1) := by decide +kernel
theorem dX6_failing_10 : decode cX6_failing 10 = .ok (.iconst 0, 1) := by decide +kernel
theorem dX6_failing_11 : decode cX6_failing 11 = .ok (.bipush 50, 2) := by decide +kernel
theorem dX6_failing_13 : decode cX6_failing 13 = .ok (.invokestatic 118, 3) := by decide +kernel
theorem dX6_failing_16 : decode cX6_failing 16 = .ok (.ifCond .ne 7, 3) := by decide +kernel
theorem dX6_failing_19 : decode cX6_failing 19 = .ok (.iconst 1, 1) := by decide +kernel
theorem dX6_failing_20 : decode cX6_failing 20 = .ok (.goto 4, 3) := by decide +kernel
theorem dX6_failing_23 : decode cX6_failing 23 = .ok (.iconst 0, 1) := by decide +kernel
theorem dX6_failing_24 : decode cX6_failing 24 = .ok (.invokevirtual 125, 3) := by decide +kernel
theorem dX6_failing_27 : decode cX6_failing 27 = .ok (.ifCond .eq 5, 3) := by decide +kernel
theorem dX6_failing_30 : decode cX6_failing 30 = .ok (.iconst 0, 1) := by decide +kernel
theorem dX6_failing_31 : decode cX6_failing 31 = .ok (.ireturn, 1) := by decide +kernel
theorem dX6_failing_32 : decode cX6_failing 32 = .ok (.aload_n 0, 1) := by decide +kernel
theorem dX6_failing_33 : decode cX6_failing 33 = .ok (.getfield 44, 3) := by decide +kernel
theorem dX6_failing_36 : decode cX6_failing 36 = .ok (.iload_n 1, 1) := by decide +kernel
theorem dX6_failing_37 : decode cX6_failing 37 = .ok (.iaload, 1) := by decide +kernel
theorem dX6_failing_38 : decode cX6_failing 38 = .ok (.istore_n 3, 1) := by decide +kernel
theorem dX6_failing_39 : decode cX6_failing 39 = .ok (.aload_n 0, 1) := by decide +kernel
theorem dX6_failing_40 : decode cX6_failing 40 = .ok (.getfield 44, 3) := by decide +kernel
theorem dX6_failing_43 : decode cX6_failing 43 = .ok (.iload_n 1, 1) := by decide +kernel
theorem dX6_failing_44 : decode cX6_failing 44 = .ok (.iload_n 2, 1) := by decide +kernel
theorem dX6_failing_45 : decode cX6_failing 45 = .ok (.iastore, 1) := by decide +kernel
theorem dX6_failing_46 : decode cX6_failing 46 = .ok (.iload_n 3, 1) := by decide +kernel
theorem dX6_failing_47 : decode cX6_failing 47 = .ok (.ireturn, 1) := by decide +kernel
theorem dX6_begin_0 : decode cX6_begin 0 = .ok (.aload_n 0, 1) := by decide +kernel
theorem dX6_begin_1 : decode cX6_begin 1 = .ok (.aload_n 0, 1) := by decide +kernel
theorem dX6_begin_2 : decode cX6_begin 2 = .ok (.getfield 20, 3) := by decide +kernel
theorem dX6_begin_5 : decode cX6_begin 5 = .ok (.iconst 0, 1) := by decide +kernel
theorem dX6_begin_6 : decode cX6_begin 6 = .ok (.iaload, 1) := by decide +kernel
theorem dX6_begin_7 : decode cX6_begin 7 = .ok (.iconst 1, 1) := by decide +kernel
theorem dX6_begin_8 : decode cX6_begin 8 = .ok (.if_icmp .ne 7, 3) := by decide +kernel
theorem dX6_begin_11 : decode cX6_begin 11 = .ok (.iconst 1, 1) := by decide +kernel
theorem dX6_begin_12 : decode cX6_begin 12 = .ok (.goto 4, 3) := by decide +kernel
theorem dX6_begin_15 : decode cX6_begin 15 = .ok (.iconst 0, 1) := by decide +kernel
theorem dX6_begin_16 : decode cX6_begin 16 = .ok (.invokevirtual 125, 3) := by decide +kernel
theorem dX6_begin_19 : decode cX6_begin 19 = .ok (.ifCond .ne 15, 3) := by decide +kernel
theorem dX6_begin_22 : decode cX6_begin 22 = .ok (.aload_n 0, 1) := by decide +kernel
theorem dX6_begin_23 : decode cX6_begin 23 = .ok (.iconst 0, 1) := by decide +kernel
theorem dX6_begin_24 : decode cX6_begin 24 = .ok (.invokevirtual 115, 3) := by decide +kernel
theorem dX6_begin_27 : decode cX6_begin 27 = .ok (.ifCond .eq 7, 3) := by decide +kernel
theorem dX6_begin_30 : decode cX6_begin 30 = .ok (.iconst 1, 1) := by decide +kernel
theorem dX6_begin_31 : decode cX6_begin 31 = .ok (.goto 4, 3) := by decide +kernel
theorem dX6_begin_34 : decode cX6_begin 34 = .ok (.iconst 0, 1) := by decide +kernel
theorem dX6_begin_35 : decode cX6_begin 35 = .ok (.ireturn, 1) := by decide +kernel
theorem dX6_ends_0 : decode cX6_ends 0 = .ok (.aload_n 0, 1) := by decide +kernel
theorem dX6_ends_1 : decode cX6_ends 1 = .ok (.aload_n 0, 1) := by decide +kernel
theorem dX6_ends_2 : decode cX6_ends 2 = .ok (.iload_n 1, 1) := by decide +kernel
theorem dX6_ends_3 : decode cX6_ends 3 = .ok (.invokevirtual 134, 3) := by decide +kernel
theorem dX6_ends_6 : decode cX6_ends 6 = .ok (.ifCond .eq 13, 3) := by decide +kernel
theorem dX6_ends_9 : decode cX6_ends 9 = .ok (.iload_n 2, 1) := by decide +kernel
theorem dX6_ends_10 : decode cX6_ends 10 = .ok (.iconst 0, 1) := by decide +kernel
theorem dX6_ends_11 : decode cX6_ends 11 = .ok (.bipush 9, 2) := by decide +kernel
theorem dX6_ends_13 : decode cX6_ends 13 = .ok (.invokestatic 118, 3) := by decide +kernel
theorem dX6_ends_16 : decode cX6_ends 16 = .ok (.ifCond .ne 7, 3) := by decide +kernel
theorem dX6_ends_19 : decode cX6_ends 19 = .ok (.iconst 1, 1) := by decide +kernel
theorem dX6_ends_20 : decode cX6_ends 20 = .ok (.goto 18, 3) := by decide +kernel
theorem dX6_ends_23 : decode cX6_ends 23 = .ok (.aload_n 0, 1) := by decide +kernel
theorem dX6_ends_24 : decode cX6_ends 24 = .ok (.getfield 20, 3) := by decide +kernel
theorem dX6_ends_27 : decode cX6_ends 27 = .ok (.iload_n 1, 1) := by decide +kernel
theorem dX6_ends_28 : decode cX6_ends 28 = .ok (.iaload, 1) := by decide +kernel
theorem dX6_ends_29 : decode cX6_ends 29 = .ok (.iconst 1, 1) := by decide +kernel
theorem dX6_ends_30 : decode cX6_ends 30 = .ok (.if_icmp .eq 7, 3) := by decide +kernel
theorem dX6_ends_33 : decode cX6_ends 33 = .ok (.iconst 2, 1) := by decide +kernel
theorem dX6_ends_34 : decode cX6_ends 34 = .ok (.goto 4, 3) := by decide +kernel
theorem dX6_ends_37 : decode cX6_ends 37 = .ok (.iconst 0, 1) := by decide +kernel
theorem dX6_ends_38 : decode cX6_ends 38 = .ok (.invokevirtual 125, 3) := by decide +kernel
theorem dX6_ends_41 : decode cX6_ends 41 = .ok (.ifCond .eq 4, 3) := by decide +kernel
theorem dX6_ends_44 : decode cX6_ends 44 = .ok (.return_, 1) := by decide +kernel
theorem dX6_ends_45 : decode cX6_ends 45 = .ok (.aload_n 0, 1) := by decide +kernel
theorem dX6_ends_46 : decode cX6_ends 46 = .ok (.iconst 5, 1) := by decide +kernel
theorem dX6_ends_47 : decode cX6_ends 47 = .ok (.iload_n 1, 1) := by decide +kernel
theorem dX6_ends_48 : decode cX6_ends 48 = .ok (.iload_n 2, 1) := by decide +kernel
theorem dX6_ends_49 : decode cX6_ends 49 = .ok (.invokevirtual 89, 3) := by decide +kernel
theorem dX6_ends_52 : decode cX6_ends 52 = .ok (.aload_n 0, 1) := by decide +kernel
theorem dX6_ends_53 : decode cX6_ends 53 = .ok (.getfield 20, 3) := by decide +kernel
theorem dX6_ends_56 : decode cX6_ends 56 = .ok (.iload_n 1, 1) := by decide +kernel
theorem dX6_ends_57 : decode cX6_ends 57 = .ok (.iconst 0, 1) := by decide +kernel
theorem dX6_ends_58 : decode cX6_ends 58 = .ok (.iastore, 1) := by decide +kernel
theorem dX6_ends_59 : decode cX6_ends 59 = .ok (.aload_n 0, 1) := by decide +kernel
theorem dX6_ends_60 : decode cX6_ends 60 = .ok (.iload_n 1, 1) := by decide +kernel
theorem dX6_ends_61 : decode cX6_ends 61 = .ok (.iload_n 2, 1) := by decide +kernel
theorem dX6_ends_62 : decode cX6_ends 62 = .ok (.invokevirtual 137, 3) := by decide +kernel
theorem dX6_ends_65 : decode cX6_ends 65 = .ok (.return_, 1) := by decide +kernel
theorem dX6_kill_0 : decode cX6_kill 0 = .ok (.aload_n 0, 1) := by decide +kernel
theorem dX6_kill_1 : decode cX6_kill 1 = .ok (.aload_n 0, 1) := by decide +kernel
theorem dX6_kill_2 : decode cX6_kill 2 = .ok (.iload_n 1, 1) := by decide +kernel
theorem dX6_kill_3 : decode cX6_kill 3 = .ok (.invokevirtual 75, 3) := by decide +kernel
theorem dX6_kill_6 : decode cX6_kill 6 = .ok (.ifCond .ne 7, 3) := by decide +kernel
theorem dX6_kill_9 : decode cX6_kill 9 = .ok (.iconst 1, 1) := by decide +kernel
theorem dX6_kill_10 : decode cX6_kill 10 = .ok (.goto 18, 3) := by decide +kernel
theorem dX6_kill_13 : decode cX6_kill 13 = .ok (.aload_n 0, 1) := by decide +kernel
theorem dX6_kill_14 : decode cX6_kill 14 = .ok (.getfield 20, 3) := by decide +kernel
theorem dX6_kill_17 : decode cX6_kill 17 = .ok (.iload_n 1, 1) := by decide +kernel
theorem dX6_kill_18 : decode cX6_kill 18 = .ok (.iaload, 1) := by decide +kernel
theorem dX6_kill_19 : decode cX6_kill 19 = .ok (.iconst 1, 1) := by decide +kernel
theorem dX6_kill_20 : decode cX6_kill 20 = .ok (.if_icmp .eq 7, 3) := by decide +kernel
theorem dX6_kill_23 : decode cX6_kill 23 = .ok (.iconst 2, 1) := by decide +kernel
theorem dX6_kill_24 : decode cX6_kill 24 = .ok (.goto 4, 3) := by decide +kernel
theorem dX6_kill_27 : decode cX6_kill 27 = .ok (.iconst 0, 1) := by decide +kernel
theorem dX6_kill_28 : decode cX6_kill 28 = .ok (.invokevirtual 125, 3) := by decide +kernel
theorem dX6_kill_31 : decode cX6_kill 31 = .ok (.ifCond .eq 5, 3) := by decide +kernel
theorem dX6_kill_34 : decode cX6_kill 34 = .ok (.iconst 0, 1) := by decide +kernel
theorem dX6_kill_35 : decode cX6_kill 35 = .ok (.ireturn, 1) := by decide +kernel
theorem dX6_kill_36 : decode cX6_kill 36 = .ok (.aload_n 0, 1) := by decide +kernel
theorem dX6_kill_37 : decode cX6_kill 37 = .ok (.iload_n 1, 1) := by decide +kernel
theorem dX6_kill_38 : decode cX6_kill 38 = .ok (.iconst 0, 1) := by decide +kernel
theorem dX6_kill_39 : decode cX6_kill 39 = .ok (.iconst 1, 1) := by decide +kernel
theorem dX6_kill_40 : decode cX6_kill 40 = .ok (.invokevirtual 92, 3) := by decide +kernel
theorem dX6_kill_43 : decode cX6_kill 43 = .ok (.istore_n 2, 1) := by decide +kernel
theorem dX6_kill_44 : decode cX6_kill 44 = .ok (.aload_n 0, 1) := by decide +kernel
theorem dX6_kill_45 : decode cX6_kill 45 = .ok (.iload_n 1, 1) := by decide +kernel
theorem dX6_kill_46 : decode cX6_kill 46 = .ok (.bipush 9, 2) := by decide +kernel
theorem dX6_kill_48 : decode cX6_kill 48 = .ok (.invokevirtual 137, 3) := by decide +kernel
theorem dX6_kill_51 : decode cX6_kill 51 = .ok (.iload_n 2, 1) := by decide +kernel
theorem dX6_kill_52 : decode cX6_kill 52 = .ok (.ireturn, 1) := by decide +kernel
theorem dX6_stop_0 : decode cX6_stop 0 = .ok (.aload_n 0, 1) := by decide +kernel
theorem dX6_stop_1 : decode cX6_stop 1 = .ok (.aload_n 0, 1) := by decide +kernel
theorem dX6_stop_2 : decode cX6_stop 2 = .ok (.iload_n 1, 1) := by decide +kernel
theorem dX6_stop_3 : decode cX6_stop 3 = .ok (.invokevirtual 75, 3) := by decide +kernel
theorem dX6_stop_6 : decode cX6_stop 6 = .ok (.ifCond .eq 7, 3) := by decide +kernel
theorem dX6_stop_9 : decode cX6_stop 9 = .ok (.iload_n 1, 1) := by decide +kernel
theorem dX6_stop_10 : decode cX6_stop 10 = .ok (.ifCond .ne 7, 3) := by decide +kernel
theorem dX6_stop_13 : decode cX6_stop 13 = .ok (.iconst 1, 1) := by decide +kernel
theorem dX6_stop_14 : decode cX6_stop 14 = .ok (.goto 18, 3) := by decide +kernel
theorem dX6_stop_17 : decode cX6_stop 17 = .ok (.aload_n 0, 1) := by decide +kernel
theorem dX6_stop_18 : decode cX6_stop 18 = .ok (.getfield 20, 3) := by decide +kernel
theorem dX6_stop_21 : decode cX6_stop 21 = .ok (.iload_n 1, 1) := by decide +kernel
theorem dX6_stop_22 : decode cX6_stop 22 = .ok (.iaload, 1) := by decide +kernel
theorem dX6_stop_23 : decode cX6_stop 23 = .ok (.iconst 1, 1) := by decide +kernel
theorem dX6_stop_24 : decode cX6_stop 24 = .ok (.if_icmp .eq 7, 3) := by decide +kernel
theorem dX6_stop_27 : decode cX6_stop 27 = .ok (.iconst 2, 1) := by decide +kernel
theorem dX6_stop_28 : decode cX6_stop 28 = .ok (.goto 4, 3) := by decide +kernel
theorem dX6_stop_31 : decode cX6_stop 31 = .ok (.iconst 0, 1) := by decide +kernel
theorem dX6_stop_32 : decode cX6_stop 32 = .ok (.invokevirtual 125, 3) := by decide +kernel
theorem dX6_stop_35 : decode cX6_stop 35 = .ok (.ifCond .eq 4, 3) := by decide +kernel
theorem dX6_stop_38 : decode cX6_stop 38 = .ok (.return_, 1) := by decide +kernel
theorem dX6_stop_39 : decode cX6_stop 39 = .ok (.aload_n 0, 1) := by decide +kernel
theorem dX6_stop_40 : decode cX6_stop 40 = .ok (.iload_n 1, 1) := by decide +kernel
theorem dX6_stop_41 : decode cX6_stop 41 = .ok (.iconst 0, 1) := by decide +kernel
theorem dX6_stop_42 : decode cX6_stop 42 = .ok (.iconst 0, 1) := by decide +kernel
theorem dX6_stop_43 : decode cX6_stop 43 = .ok (.invokevirtual 92, 3) := by decide +kernel
theorem dX6_stop_46 : decode cX6_stop 46 = .ok (.pop, 1) := by decide +kernel
theorem dX6_stop_47 : decode cX6_stop 47 = .ok (.aload_n 0, 1) := by decide +kernel
theorem dX6_stop_48 : decode cX6_stop 48 = .ok (.getfield 23, 3) := by decide +kernel
theorem dX6_stop_51 : decode cX6_stop 51 = .ok (.iload_n 1, 1) := by decide +kernel
theorem dX6_stop_52 : decode cX6_stop 52 = .ok (.iaload, 1) := by decide +kernel
theorem dX6_stop_53 : decode cX6_stop 53 = .ok (.iconst 2, 1) := by decide +kernel
theorem dX6_stop_54 : decode cX6_stop 54 = .ok (.if_icmp .ne 9, 3) := by decide +kernel
theorem dX6_stop_57 : decode cX6_stop 57 = .ok (.aload_n 0, 1) := by decide +kernel
theorem dX6_stop_58 : decode cX6_stop 58 = .ok (.iload_n 1, 1) := by decide +kernel
theorem dX6_stop_59 : decode cX6_stop 59 = .ok (.invokevirtual 103, 3) := by decide +kernel
theorem dX6_stop_62 : decode cX6_stop 62 = .ok (.pop, 1) := by decide +kernel
theorem dX6_stop_63 : decode cX6_stop 63 = .ok (.return_, 1) := by decide +kernel
theorem dX6_again_0 : decode cX6_again 0 = .ok (.aload_n 0, 1) := by decide +kernel
theorem dX6_again_1 : decode cX6_again 1 = .ok (.aload_n 0, 1) := by decide +kernel
theorem dX6_again_2 : decode cX6_again 2 = .ok (.iload_n 1, 1) := by decide +kernel
theorem dX6_again_3 : decode cX6_again 3 = .ok (.invokevirtual 75, 3) := by decide +kernel
theorem dX6_again_6 : decode cX6_again 6 = .ok (.ifCond .eq 7, 3) := by decide +kernel
theorem dX6_again_9 : decode cX6_again 9 = .ok (.iload_n 1, 1) := by decide +kernel
theorem dX6_again_10 : decode cX6_again 10 = .ok (.ifCond .ne 7, 3) := by decide +kernel
theorem dX6_again_13 : decode cX6_again 13 = .ok (.iconst 1, 1) := by decide +kernel
theorem dX6_again_14 : decode cX6_again 14 = .ok (.goto 33, 3) := by decide +kernel
theorem dX6_again_17 : decode cX6_again 17 = .ok (.aload_n 0, 1) := by decide +kernel
theorem dX6_again_18 : decode cX6_again 18 = .ok (.getfield 20, 3) := by decide +kernel
theorem dX6_again_21 : decode cX6_again 21 = .ok (.iload_n 1, 1) := by decide +kernel
theorem dX6_again_22 : decode cX6_again 22 = .ok (.iaload, 1) := by decide +kernel
theorem dX6_again_23 : decode cX6_again 23 = .ok (.iconst 1, 1) := by decide +kernel
theorem dX6_again_24 : decode cX6_again 24 = .ok (.if_icmp .eq 18, 3) := by decide +kernel
theorem dX6_again_27 : decode cX6_again 27 = .ok (.aload_n 0, 1) := by decide +kernel
theorem dX6_again_28 : decode cX6_again 28 = .ok (.getfield 20, 3) := by decide +kernel
theorem dX6_again_31 : decode cX6_again 31 = .ok (.aload_n 0, 1) := by decide +kernel
theorem dX6_again_32 : decode cX6_again 32 = .ok (.getfield 13, 3) := by decide +kernel
theorem dX6_again_35 : decode cX6_again 35 = .ok (.iload_n 1, 1) := by decide +kernel
theorem dX6_again_36 : decode cX6_again 36 = .ok (.iaload, 1) := by decide +kernel
theorem dX6_again_37 : decode cX6_again 37 = .ok (.iaload, 1) := by decide +kernel
theorem dX6_again_38 : decode cX6_again 38 = .ok (.iconst 1, 1) := by decide +kernel
theorem dX6_again_39 : decode cX6_again 39 = .ok (.if_icmp .eq 7, 3) := by decide +kernel
theorem dX6_again_42 : decode cX6_again 42 = .ok (.iconst 2, 1) := by decide +kernel
theorem dX6_again_43 : decode cX6_again 43 = .ok (.goto 4, 3) := by decide +kernel
theorem dX6_again_46 : decode cX6_again 46 = .ok (.iconst 0, 1) := by decide +kernel
theorem dX6_again_47 : decode cX6_again 47 = .ok (.invokevirtual 125, 3) := by decide +kernel
theorem dX6_again_50 : decode cX6_again 50 = .ok (.ifCond .ne 15, 3) := by decide +kernel
theorem dX6_again_53 : decode cX6_again 53 = .ok (.aload_n 0, 1) := by decide +kernel
theorem dX6_again_54 : decode cX6_again 54 = .ok (.iload_n 1, 1) := by decide +kernel
theorem dX6_again_55 : decode cX6_again 55 = .ok (.invokevirtual 115, 3) := by decide +kernel
theorem dX6_again_58 : decode cX6_again 58 = .ok (.ifCond .eq 7, 3) := by decide +kernel
theorem dX6_again_61 : decode cX6_again 61 = .ok (.iconst 1, 1) := by decide +kernel
theorem dX6_again_62 : decode cX6_again 62 = .ok (.goto 4, 3) := by decide +kernel
theorem dX6_again_65 : decode cX6_again 65 = .ok (.iconst 0, 1) := by decide +kernel
theorem dX6_again_66 : decode cX6_again 66 = .ok (.ireturn, 1) := by decide +kernel
theorem dX6_remove_0 : decode cX6_remove 0 = .ok (.aload_n 0, 1) := by decide +kernel
theorem dX6_remove_1 : decode cX6_remove 1 = .ok (.aload_n 0, 1) := by decide +kernel
theorem dX6_remove_2 : decode cX6_remove 2 = .ok (.iload_n 1, 1) := by decide +kernel
theorem dX6_remove_3 : decode cX6_remove 3 = .ok (.invokevirtual 75, 3) := by decide +kernel
theorem dX6_remove_6 : decode cX6_remove 6 = .ok (.ifCond .eq 7, 3) := by decide +kernel
theorem dX6_remove_9 : decode cX6_remove 9 = .ok (.iload_n 1, 1) := by decide +kernel
theorem dX6_remove_10 : decode cX6_remove 10 = .ok (.ifCond .ne 7, 3) := by decide +kernel
theorem dX6_remove_13 : decode cX6_remove 13 = .ok (.iconst 1, 1) := by decide +kernel
theorem dX6_remove_14 : decode cX6_remove 14 = .ok (.goto 18, 3) := by decide +kernel
theorem dX6_remove_17 : decode cX6_remove 17 = .ok (.aload_n 0, 1) := by decide +kernel
theorem dX6_remove_18 : decode cX6_remove 18 = .ok (.getfield 20, 3) := by decide +kernel
theorem dX6_remove_21 : decode cX6_remove 21 = .ok (.iload_n 1, 1) := by decide +kernel
theorem dX6_remove_22 : decode cX6_remove 22 = .ok (.iaload, 1) := by decide +kernel
theorem dX6_remove_23 : decode cX6_remove 23 = .ok (.iconst 1, 1) := by decide +kernel
theorem dX6_remove_24 : decode cX6_remove 24 = .ok (.if_icmp .ne 7, 3) := by decide +kernel
theorem dX6_remove_27 : decode cX6_remove 27 = .ok (.iconst 2, 1) := by decide +kernel
theorem dX6_remove_28 : decode cX6_remove 28 = .ok (.goto 4, 3) := by decide +kernel
theorem dX6_remove_31 : decode cX6_remove 31 = .ok (.iconst 0, 1) := by decide +kernel
theorem dX6_remove_32 : decode cX6_remove 32 = .ok (.invokevirtual 125, 3) := by decide +kernel
theorem dX6_remove_35 : decode cX6_remove 35 = .ok (.ifCond .eq 7, 3) := by decide +kernel
theorem dX6_remove_38 : decode cX6_remove 38 = .ok (.iconst 0, 1) := by decide +kernel
theorem dX6_remove_39 : decode cX6_remove 39 = .ok (.goto 8, 3) := by decide +kernel
theorem dX6_remove_42 : decode cX6_remove 42 = .ok (.aload_n 0, 1) := by decide +kernel
theorem dX6_remove_43 : decode cX6_remove 43 = .ok (.iload_n 1, 1) := by decide +kernel
theorem dX6_remove_44 : decode cX6_remove 44 = .ok (.invokevirtual 103, 3) := by decide +kernel
theorem dX6_remove_47 : decode cX6_remove 47 = .ok (.ireturn, 1) := by decide +kernel
theorem dX6_pass_0 : decode cX6_pass 0 = .ok (.aload_n 0, 1) := by decide +kernel
theorem dX6_pass_1 : decode cX6_pass 1 = .ok (.iload_n 1, 1) := by decide +kernel
theorem dX6_pass_2 : decode cX6_pass 2 = .ok (.iconst 0, 1) := by decide +kernel
theorem dX6_pass_3 : decode cX6_pass 3 = .ok (.sipush 10000, 3) := by decide +kernel
theorem dX6_pass_6 : decode cX6_pass 6 = .ok (.invokestatic 118, 3) := by decide +kernel
theorem dX6_pass_9 : decode cX6_pass 9 = .ok (.ifCond .ne 7, 3) := by decide +kernel
theorem dX6_pass_12 : decode cX6_pass 12 = .ok (.iconst 1, 1) := by decide +kernel
theorem dX6_pass_13 : decode cX6_pass 13 = .ok (.goto 4, 3) := by decide +kernel
theorem dX6_pass_16 : decode cX6_pass 16 = .ok (.iconst 0, 1) := by decide +kernel
theorem dX6_pass_17 : decode cX6_pass 17 = .ok (.invokevirtual 125, 3) := by decide +kernel
theorem dX6_pass_20 : decode cX6_pass 20 = .ok (.ifCond .eq 5, 3) := by decide +kernel
theorem dX6_pass_23 : decode cX6_pass 23 = .ok (.iconst 0, 1) := by decide +kernel
theorem dX6_pass_24 : decode cX6_pass 24 = .ok (.ireturn, 1) := by decide +kernel
theorem dX6_pass_25 : decode cX6_pass 25 = .ok (.aload_n 0, 1) := by decide +kernel
theorem dX6_pass_26 : decode cX6_pass 26 = .ok (.dup, 1) := by decide +kernel
theorem dX6_pass_27 : decode cX6_pass 27 = .ok (.getfield 82, 3) := by decide +kernel
theorem dX6_pass_30 : decode cX6_pass 30 = .ok (.iload_n 1, 1) := by decide +kernel
theorem dX6_pass_31 : decode cX6_pass 31 = .ok (.iadd, 1) := by decide +kernel
theorem dX6_pass_32 : decode cX6_pass 32 = .ok (.putfield 82, 3) := by decide +kernel
theorem dX6_pass_35 : decode cX6_pass 35 = .ok (.aload_n 0, 1) := by decide +kernel
theorem dX6_pass_36 : decode cX6_pass 36 = .ok (.getfield 82, 3) := by decide +kernel
theorem dX6_pass_39 : decode cX6_pass 39 = .ok (.ireturn, 1) := by decide +kernel
theorem dX6_state_0 : decode cX6_state 0 = .ok (.aload_n 0, 1) := by decide +kernel
theorem dX6_state_1 : decode cX6_state 1 = .ok (.iload_n 1, 1) := by decide +kernel
theorem dX6_state_2 : decode cX6_state 2 = .ok (.ifCond .lt 11, 3) := by decide +kernel
theorem dX6_state_5 : decode cX6_state 5 = .ok (.iload_n 1, 1) := by decide +kernel
theorem dX6_state_6 : decode cX6_state 6 = .ok (.aload_n 0, 1) := by decide +kernel
theorem dX6_state_7 : decode cX6_state 7 = .ok (.getfield 68, 3) := by decide +kernel
theorem dX6_state_10 : decode cX6_state 10 = .ok (.if_icmp .lt 7, 3) := by decide +kernel
theorem dX6_state_13 : decode cX6_state 13 = .ok (.iconst 1, 1) := by decide +kernel
theorem dX6_state_14 : decode cX6_state 14 = .ok (.goto 4, 3) := by decide +kernel
theorem dX6_state_17 : decode cX6_state 17 = .ok (.iconst 0, 1) := by decide +kernel
theorem dX6_state_18 : decode cX6_state 18 = .ok (.invokevirtual 125, 3) := by decide +kernel
theorem dX6_state_21 : decode cX6_state 21 = .ok (.ifCond .eq 7, 3) := by decide +kernel
theorem dX6_state_24 : decode cX6_state 24 = .ok (.iconst 0, 1) := by decide +kernel
theorem dX6_state_25 : decode cX6_state 25 = .ok (.goto 9, 3) := by decide +kernel
theorem dX6_state_28 : decode cX6_state 28 = .ok (.aload_n 0, 1) := by decide +kernel
theorem dX6_state_29 : decode cX6_state 29 = .ok (.getfield 20, 3) := by decide +kernel
theorem dX6_state_32 : decode cX6_state 32 = .ok (.iload_n 1, 1) := by decide +kernel
theorem dX6_state_33 : decode cX6_state 33 = .ok (.iaload, 1) := by decide +kernel
theorem dX6_state_34 : decode cX6_state 34 = .ok (.ireturn, 1) := by decide +kernel
theorem dX6_about_0 : decode cX6_about 0 = .ok (.aload_n 0, 1) := by decide +kernel
theorem dX6_about_1 : decode cX6_about 1 = .ok (.aload_n 0, 1) := by decide +kernel
theorem dX6_about_2 : decode cX6_about 2 = .ok (.iload_n 1, 1) := by decide +kernel
theorem dX6_about_3 : decode cX6_about 3 = .ok (.invokevirtual 75, 3) := by decide +kernel
theorem dX6_about_6 : decode cX6_about 6 = .ok (.ifCond .eq 13, 3) := by decide +kernel
theorem dX6_about_9 : decode cX6_about 9 = .ok (.iload_n 2, 1) := by decide +kernel
theorem dX6_about_10 : decode cX6_about 10 = .ok (.iconst 0, 1) := by decide +kernel
theorem dX6_about_11 : decode cX6_about 11 = .ok (.bipush 7, 2) := by decide +kernel
theorem dX6_about_13 : decode cX6_about 13 = .ok (.invokestatic 118, 3) := by decide +kernel
theorem dX6_about_16 : decode cX6_about 16 = .ok (.ifCond .ne 7, 3) := by decide +kernel
theorem dX6_about_19 : decode cX6_about 19 = .ok (.iconst 1, 1) := by decide +kernel
theorem dX6_about_20 : decode cX6_about 20 = .ok (.goto 4, 3) := by decide +kernel
theorem dX6_about_23 : decode cX6_about 23 = .ok (.iconst 0, 1) := by decide +kernel
theorem dX6_about_24 : decode cX6_about 24 = .ok (.invokevirtual 125, 3) := by decide +kernel
theorem dX6_about_27 : decode cX6_about 27 = .ok (.ifCond .eq 5, 3) := by decide +kernel
theorem dX6_about_30 : decode cX6_about 30 = .ok (.iconst 0, 1) := by decide +kernel
theorem dX6_about_31 : decode cX6_about 31 = .ok (.ireturn, 1) := by decide +kernel
theorem dX6_about_32 : decode cX6_about 32 = .ok (.iconst 0, 1) := by decide +kernel
theorem dX6_about_33 : decode cX6_about 33 = .ok (.istore_n 3, 1) := by decide +kernel
theorem dX6_about_34 : decode cX6_about 34 = .ok (.iload_n 2, 1) := by decide +kernel
theorem dX6_about_35 : decode cX6_about 35 = .ok (.tableswitch 180 0 6 #[41, 48, 62, 69, 76, 91, 111], 41) := by decide +kernel
theorem dX6_about_76 : decode cX6_about 76 = .ok (.aload_n 0, 1) := by decide +kernel
theorem dX6_about_77 : decode cX6_about 77 = .ok (.getfield 13, 3) := by decide +kernel
theorem dX6_about_80 : decode cX6_about 80 = .ok (.iload_n 1, 1) := by decide +kernel
theorem dX6_about_81 : decode cX6_about 81 = .ok (.iaload, 1) := by decide +kernel
theorem dX6_about_82 : decode cX6_about 82 = .ok (.ireturn, 1) := by decide +kernel
theorem dX6_about_83 : decode cX6_about 83 = .ok (.iload_n 1, 1) := by decide +kernel
theorem dX6_about_84 : decode cX6_about 84 = .ok (.ifCond .ne 7, 3) := by decide +kernel
theorem dX6_about_87 : decode cX6_about 87 = .ok (.iconst 0, 1) := by decide +kernel
theorem dX6_about_88 : decode cX6_about 88 = .ok (.goto 8, 3) := by decide +kernel
theorem dX6_about_91 : decode cX6_about 91 = .ok (.aload_n 0, 1) := by decide +kernel
theorem dX6_about_92 : decode cX6_about 92 = .ok (.iload_n 1, 1) := by decide +kernel
theorem dX6_about_93 : decode cX6_about 93 = .ok (.invokevirtual 96, 3) := by decide +kernel
theorem dX6_about_96 : decode cX6_about 96 = .ok (.ireturn, 1) := by decide +kernel
theorem dX6_about_97 : decode cX6_about 97 = .ok (.aload_n 0, 1) := by decide +kernel
theorem dX6_about_98 : decode cX6_about 98 = .ok (.getfield 17, 3) := by decide +kernel
theorem dX6_about_101 : decode cX6_about 101 = .ok (.iload_n 1, 1) := by decide +kernel
theorem dX6_about_102 : decode cX6_about 102 = .ok (.iaload, 1) := by decide +kernel
theorem dX6_about_103 : decode cX6_about 103 = .ok (.ireturn, 1) := by decide +kernel
theorem dX6_about_104 : decode cX6_about 104 = .ok (.aload_n 0, 1) := by decide +kernel
theorem dX6_about_105 : decode cX6_about 105 = .ok (.getfield 23, 3) := by decide +kernel
theorem dX6_about_108 : decode cX6_about 108 = .ok (.iload_n 1, 1) := by decide +kernel
theorem dX6_about_109 : decode cX6_about 109 = .ok (.iaload, 1) := by decide +kernel
theorem dX6_about_110 : decode cX6_about 110 = .ok (.ireturn, 1) := by decide +kernel
theorem dX6_about_111 : decode cX6_about 111 = .ok (.aload_n 0, 1) := by decide +kernel
theorem dX6_about_112 : decode cX6_about 112 = .ok (.getfield 7, 3) := by decide +kernel
theorem dX6_about_115 : decode cX6_about 115 = .ok (.iload_n 1, 1) := by decide +kernel
theorem dX6_about_116 : decode cX6_about 116 = .ok (.baload, 1) := by decide +kernel
theorem dX6_about_117 : decode cX6_about 117 = .ok (.ifCond .eq 7, 3) := by decide +kernel
theorem dX6_about_120 : decode cX6_about 120 = .ok (.iconst 1, 1) := by decide +kernel
theorem dX6_about_121 : decode cX6_about 121 = .ok (.goto 4, 3) := by decide +kernel
theorem dX6_about_124 : decode cX6_about 124 = .ok (.iconst 0, 1) := by decide +kernel
theorem dX6_about_125 : decode cX6_about 125 = .ok (.ireturn, 1) := by decide +kernel
theorem dX6_about_126 : decode cX6_about 126 = .ok (.aload_n 0, 1) := by decide +kernel
theorem dX6_about_127 : decode cX6_about 127 = .ok (.getfield 7, 3) := by decide +kernel
theorem dX6_about_130 : decode cX6_about 130 = .ok (.iload_n 1, 1) := by decide +kernel
theorem dX6_about_131 : decode cX6_about 131 = .ok (.baload, 1) := by decide +kernel
theorem dX6_about_132 : decode cX6_about 132 = .ok (.ifCond .eq 12, 3) := by decide +kernel
theorem dX6_about_135 : decode cX6_about 135 = .ok (.aload_n 0, 1) := by decide +kernel
theorem dX6_about_136 : decode cX6_about 136 = .ok (.getfield 50, 3) := by decide +kernel
theorem dX6_about_139 : decode cX6_about 139 = .ok (.iload_n 1, 1) := by decide +kernel
theorem dX6_about_140 : decode cX6_about 140 = .ok (.iaload, 1) := by decide +kernel
theorem dX6_about_141 : decode cX6_about 141 = .ok (.goto 4, 3) := by decide +kernel
theorem dX6_about_144 : decode cX6_about 144 = .ok (.iconst (-1), 1) := by decide +kernel
theorem dX6_about_145 : decode cX6_about 145 = .ok (.ireturn, 1) := by decide +kernel
theorem dX6_about_146 : decode cX6_about 146 = .ok (.iconst 0, 1) := by decide +kernel
theorem dX6_about_147 : decode cX6_about 147 = .ok (.istore 4, 2) := by decide +kernel
theorem dX6_about_149 : decode cX6_about 149 = .ok (.iload 4, 2) := by decide +kernel
theorem dX6_about_151 : decode cX6_about 151 = .ok (.aload_n 0, 1) := by decide +kernel
theorem dX6_about_152 : decode cX6_about 152 = .ok (.getfield 56, 3) := by decide +kernel
theorem dX6_about_155 : decode cX6_about 155 = .ok (.iload_n 1, 1) := by decide +kernel
theorem dX6_about_156 : decode cX6_about 156 = .ok (.iaload, 1) := by decide +kernel
theorem dX6_about_157 : decode cX6_about 157 = .ok (.if_icmp .ge 43, 3) := by decide +kernel
theorem dX6_about_160 : decode cX6_about 160 = .ok (.iload_n 3, 1) := by decide +kernel
theorem dX6_about_161 : decode cX6_about 161 = .ok (.aload_n 0, 1) := by decide +kernel
theorem dX6_about_162 : decode cX6_about 162 = .ok (.getfield 53, 3) := by decide +kernel
theorem dX6_about_165 : decode cX6_about 165 = .ok (.bipush 52, 2) := by decide +kernel
theorem dX6_about_167 : decode cX6_about 167 = .ok (.iload_n 1, 1) := by decide +kernel
theorem dX6_about_168 : decode cX6_about 168 = .ok (.imul, 1) := by decide +kernel
theorem dX6_about_169 : decode cX6_about 169 = .ok (.iload 4, 2) := by decide +kernel
theorem dX6_about_171 : decode cX6_about 171 = .ok (.iadd, 1) := by decide +kernel
theorem dX6_about_172 : decode cX6_about 172 = .ok (.iaload, 1) := by decide +kernel
theorem dX6_about_173 : decode cX6_about 173 = .ok (.aload_n 0, 1) := by decide +kernel
theorem dX6_about_174 : decode cX6_about 174 = .ok (.getfield 82, 3) := by decide +kernel
theorem dX6_about_177 : decode cX6_about 177 = .ok (.aload_n 0, 1) := by decide +kernel
theorem dX6_about_178 : decode cX6_about 178 = .ok (.getfield 32, 3) := by decide +kernel
theorem dX6_about_181 : decode cX6_about 181 = .ok (.iload_n 1, 1) := by decide +kernel
theorem dX6_about_182 : decode cX6_about 182 = .ok (.iaload, 1) := by decide +kernel
theorem dX6_about_183 : decode cX6_about 183 = .ok (.isub, 1) := by decide +kernel
theorem dX6_about_184 : decode cX6_about 184 = .ok (.if_icmp .lt 7, 3) := by decide +kernel
theorem dX6_about_187 : decode cX6_about 187 = .ok (.iconst 1, 1) := by decide +kernel
theorem dX6_about_188 : decode cX6_about 188 = .ok (.goto 4, 3) := by decide +kernel
theorem dX6_about_191 : decode cX6_about 191 = .ok (.iconst 0, 1) := by decide +kernel
theorem dX6_about_192 : decode cX6_about 192 = .ok (.iadd, 1) := by decide +kernel
theorem dX6_about_193 : decode cX6_about 193 = .ok (.istore_n 3, 1) := by decide +kernel
theorem dX6_about_194 : decode cX6_about 194 = .ok (.iinc 4 1, 3) := by decide +kernel
theorem dX6_about_197 : decode cX6_about 197 = .ok (.goto (-48), 3) := by decide +kernel
theorem dX6_about_200 : decode cX6_about 200 = .ok (.aload_n 0, 1) := by decide +kernel
theorem dX6_about_201 : decode cX6_about 201 = .ok (.getfield 7, 3) := by decide +kernel
theorem dX6_about_204 : decode cX6_about 204 = .ok (.iload_n 1, 1) := by decide +kernel
theorem dX6_about_205 : decode cX6_about 205 = .ok (.baload, 1) := by decide +kernel
theorem dX6_about_206 : decode cX6_about 206 = .ok (.ifCond .eq 7, 3) := by decide +kernel
theorem dX6_about_209 : decode cX6_about 209 = .ok (.iload_n 3, 1) := by decide +kernel
theorem dX6_about_210 : decode cX6_about 210 = .ok (.goto 4, 3) := by decide +kernel
theorem dX6_about_213 : decode cX6_about 213 = .ok (.iconst (-1), 1) := by decide +kernel
theorem dX6_about_214 : decode cX6_about 214 = .ok (.ireturn, 1) := by decide +kernel
theorem dX6_about_215 : decode cX6_about 215 = .ok (.aload_n 0, 1) := by decide +kernel
theorem dX6_about_216 : decode cX6_about 216 = .ok (.getfield 7, 3) := by decide +kernel
theorem dX6_about_219 : decode cX6_about 219 = .ok (.iload_n 1, 1) := by decide +kernel
theorem dX6_about_220 : decode cX6_about 220 = .ok (.baload, 1) := by decide +kernel
theorem dX6_about_221 : decode cX6_about 221 = .ok (.ifCond .eq 7, 3) := by decide +kernel
theorem dX6_about_224 : decode cX6_about 224 = .ok (.iconst (-1), 1) := by decide +kernel
theorem dX6_about_225 : decode cX6_about 225 = .ok (.goto 9, 3) := by decide +kernel
theorem dX6_about_228 : decode cX6_about 228 = .ok (.aload_n 0, 1) := by decide +kernel
theorem dX6_about_229 : decode cX6_about 229 = .ok (.getfield 44, 3) := by decide +kernel
theorem dX6_about_232 : decode cX6_about 232 = .ok (.iload_n 1, 1) := by decide +kernel
theorem dX6_about_233 : decode cX6_about 233 = .ok (.iaload, 1) := by decide +kernel
theorem dX6_about_234 : decode cX6_about 234 = .ok (.ireturn, 1) := by decide +kernel
theorem dX6_child__0 : decode cX6_child_ 0 = .ok (.aload_n 0, 1) := by decide +kernel
theorem dX6_child__1 : decode cX6_child_ 1 = .ok (.aload_n 0, 1) := by decide +kernel
theorem dX6_child__2 : decode cX6_child_ 2 = .ok (.iload_n 1, 1) := by decide +kernel
theorem dX6_child__3 : decode cX6_child_ 3 = .ok (.invokevirtual 128, 3) := by decide +kernel
theorem dX6_child__6 : decode cX6_child_ 6 = .ok (.ifCond .ne 7, 3) := by decide +kernel
theorem dX6_child__9 : decode cX6_child_ 9 = .ok (.iconst 1, 1) := by decide +kernel
theorem dX6_child__10 : decode cX6_child_ 10 = .ok (.goto 4, 3) := by decide +kernel
theorem dX6_child__13 : decode cX6_child_ 13 = .ok (.iconst 0, 1) := by decide +kernel
theorem dX6_child__14 : decode cX6_child_ 14 = .ok (.invokevirtual 125, 3) := by decide +kernel
theorem dX6_child__17 : decode cX6_child_ 17 = .ok (.ifCond .eq 5, 3) := by decide +kernel
theorem dX6_child__20 : decode cX6_child_ 20 = .ok (.iconst 0, 1) := by decide +kernel
theorem dX6_child__21 : decode cX6_child_ 21 = .ok (.ireturn, 1) := by decide +kernel
theorem dX6_child__22 : decode cX6_child_ 22 = .ok (.iload_n 2, 1) := by decide +kernel
theorem dX6_child__23 : decode cX6_child_ 23 = .ok (.ifCond .lt 27, 3) := by decide +kernel
theorem dX6_child__26 : decode cX6_child_ 26 = .ok (.iload_n 2, 1) := by decide +kernel
theorem dX6_child__27 : decode cX6_child_ 27 = .ok (.aload_n 0, 1) := by decide +kernel
theorem dX6_child__28 : decode cX6_child_ 28 = .ok (.getfield 50, 3) := by decide +kernel
theorem dX6_child__31 : decode cX6_child_ 31 = .ok (.iload_n 1, 1) := by decide +kernel
theorem dX6_child__32 : decode cX6_child_ 32 = .ok (.iaload, 1) := by decide +kernel
theorem dX6_child__33 : decode cX6_child_ 33 = .ok (.if_icmp .ge 17, 3) := by decide +kernel
theorem dX6_child__36 : decode cX6_child_ 36 = .ok (.aload_n 0, 1) := by decide +kernel
theorem dX6_child__37 : decode cX6_child_ 37 = .ok (.getfield 47, 3) := by decide +kernel
theorem dX6_child__40 : decode cX6_child_ 40 = .ok (.bipush 80, 2) := by decide +kernel
theorem dX6_child__42 : decode cX6_child_ 42 = .ok (.iload_n 1, 1) := by decide +kernel
theorem dX6_child__43 : decode cX6_child_ 43 = .ok (.imul, 1) := by decide +kernel
theorem dX6_child__44 : decode cX6_child_ 44 = .ok (.iload_n 2, 1) := by decide +kernel
theorem dX6_child__45 : decode cX6_child_ 45 = .ok (.iadd, 1) := by decide +kernel
theorem dX6_child__46 : decode cX6_child_ 46 = .ok (.iaload, 1) := by decide +kernel
theorem dX6_child__47 : decode cX6_child_ 47 = .ok (.goto 4, 3) := by decide +kernel
theorem dX6_child__50 : decode cX6_child_ 50 = .ok (.iconst (-1), 1) := by decide +kernel
theorem dX6_child__51 : decode cX6_child_ 51 = .ok (.ireturn, 1) := by decide +kernel
theorem dX6_event_0 : decode cX6_event 0 = .ok (.aload_n 0, 1) := by decide +kernel
theorem dX6_event_1 : decode cX6_event 1 = .ok (.iload_n 2, 1) := by decide +kernel
theorem dX6_event_2 : decode cX6_event 2 = .ok (.iconst 0, 1) := by decide +kernel
theorem dX6_event_3 : decode cX6_event 3 = .ok (.iconst 3, 1) := by decide +kernel
theorem dX6_event_4 : decode cX6_event 4 = .ok (.invokestatic 118, 3) := by decide +kernel
theorem dX6_event_7 : decode cX6_event 7 = .ok (.ifCond .ne 7, 3) := by decide +kernel
theorem dX6_event_10 : decode cX6_event 10 = .ok (.iconst 1, 1) := by decide +kernel
theorem dX6_event_11 : decode cX6_event 11 = .ok (.goto 4, 3) := by decide +kernel
theorem dX6_event_14 : decode cX6_event 14 = .ok (.iconst 0, 1) := by decide +kernel
theorem dX6_event_15 : decode cX6_event 15 = .ok (.invokevirtual 125, 3) := by decide +kernel
theorem dX6_event_18 : decode cX6_event 18 = .ok (.ifCond .eq 5, 3) := by decide +kernel
theorem dX6_event_21 : decode cX6_event 21 = .ok (.iconst 0, 1) := by decide +kernel
theorem dX6_event_22 : decode cX6_event 22 = .ok (.ireturn, 1) := by decide +kernel
theorem dX6_event_23 : decode cX6_event 23 = .ok (.iload_n 1, 1) := by decide +kernel
theorem dX6_event_24 : decode cX6_event 24 = .ok (.ifCond .lt 31, 3) := by decide +kernel
theorem dX6_event_27 : decode cX6_event 27 = .ok (.iload_n 1, 1) := by decide +kernel
theorem dX6_event_28 : decode cX6_event 28 = .ok (.aload_n 0, 1) := by decide +kernel
theorem dX6_event_29 : decode cX6_event 29 = .ok (.getfield 79, 3) := by decide +kernel
theorem dX6_event_32 : decode cX6_event 32 = .ok (.if_icmp .ge 23, 3) := by decide +kernel
theorem dX6_event_35 : decode cX6_event 35 = .ok (.iload_n 1, 1) := by decide +kernel
theorem dX6_event_36 : decode cX6_event 36 = .ok (.sipush 600, 3) := by decide +kernel
theorem dX6_event_39 : decode cX6_event 39 = .ok (.if_icmp .ge 16, 3) := by decide +kernel
theorem dX6_event_42 : decode cX6_event 42 = .ok (.aload_n 0, 1) := by decide +kernel
theorem dX6_event_43 : decode cX6_event 43 = .ok (.getfield 59, 3) := by decide +kernel
theorem dX6_event_46 : decode cX6_event 46 = .ok (.iconst 4, 1) := by decide +kernel
theorem dX6_event_47 : decode cX6_event 47 = .ok (.iload_n 1, 1) := by decide +kernel
theorem dX6_event_48 : decode cX6_event 48 = .ok (.imul, 1) := by decide +kernel
theorem dX6_event_49 : decode cX6_event 49 = .ok (.iload_n 2, 1) := by decide +kernel
theorem dX6_event_50 : decode cX6_event 50 = .ok (.iadd, 1) := by decide +kernel
theorem dX6_event_51 : decode cX6_event 51 = .ok (.iaload, 1) := by decide +kernel
theorem dX6_event_52 : decode cX6_event 52 = .ok (.goto 4, 3) := by decide +kernel
theorem dX6_event_55 : decode cX6_event 55 = .ok (.iconst (-1), 1) := by decide +kernel
theorem dX6_event_56 : decode cX6_event 56 = .ok (.ireturn, 1) := by decide +kernel
theorem dX6_total_0 : decode cX6_total 0 = .ok (.aload_n 0, 1) := by decide +kernel
theorem dX6_total_1 : decode cX6_total 1 = .ok (.iload_n 1, 1) := by decide +kernel
theorem dX6_total_2 : decode cX6_total 2 = .ok (.iconst 0, 1) := by decide +kernel
theorem dX6_total_3 : decode cX6_total 3 = .ok (.bipush 6, 2) := by decide +kernel
theorem dX6_total_5 : decode cX6_total 5 = .ok (.invokestatic 118, 3) := by decide +kernel
theorem dX6_total_8 : decode cX6_total 8 = .ok (.ifCond .ne 7, 3) := by decide +kernel
theorem dX6_total_11 : decode cX6_total 11 = .ok (.iconst 1, 1) := by decide +kernel
theorem dX6_total_12 : decode cX6_total 12 = .ok (.goto 4, 3) := by decide +kernel
theorem dX6_total_15 : decode cX6_total 15 = .ok (.iconst 0, 1) := by decide +kernel
theorem dX6_total_16 : decode cX6_total 16 = .ok (.invokevirtual 125, 3) := by decide +kernel
theorem dX6_total_19 : decode cX6_total 19 = .ok (.ifCond .eq 5, 3) := by decide +kernel
theorem dX6_total_22 : decode cX6_total 22 = .ok (.iconst 0, 1) := by decide +kernel
theorem dX6_total_23 : decode cX6_total 23 = .ok (.ireturn, 1) := by decide +kernel
theorem dX6_total_24 : decode cX6_total 24 = .ok (.iconst 0, 1) := by decide +kernel
theorem dX6_total_25 : decode cX6_total 25 = .ok (.istore_n 2, 1) := by decide +kernel
theorem dX6_total_26 : decode cX6_total 26 = .ok (.iconst 0, 1) := by decide +kernel
theorem dX6_total_27 : decode cX6_total 27 = .ok (.istore_n 3, 1) := by decide +kernel
theorem dX6_total_28 : decode cX6_total 28 = .ok (.iconst 0, 1) := by decide +kernel
theorem dX6_total_29 : decode cX6_total 29 = .ok (.istore 4, 2) := by decide +kernel
theorem dX6_total_31 : decode cX6_total 31 = .ok (.iload 4, 2) := by decide +kernel
theorem dX6_total_33 : decode cX6_total 33 = .ok (.aload_n 0, 1) := by decide +kernel
theorem dX6_total_34 : decode cX6_total 34 = .ok (.getfield 68, 3) := by decide +kernel
theorem dX6_total_37 : decode cX6_total 37 = .ok (.if_icmp .ge 47, 3) := by decide +kernel
theorem dX6_total_40 : decode cX6_total 40 = .ok (.iload_n 2, 1) := by decide +kernel
theorem dX6_total_41 : decode cX6_total 41 = .ok (.aload_n 0, 1) := by decide +kernel
theorem dX6_total_42 : decode cX6_total 42 = .ok (.getfield 20, 3) := by decide +kernel
theorem dX6_total_45 : decode cX6_total 45 = .ok (.iload 4, 2) := by decide +kernel
theorem dX6_total_47 : decode cX6_total 47 = .ok (.iaload, 1) := by decide +kernel
theorem dX6_total_48 : decode cX6_total 48 = .ok (.iconst 1, 1) := by decide +kernel
theorem dX6_total_49 : decode cX6_total 49 = .ok (.if_icmp .ne 7, 3) := by decide +kernel
theorem dX6_total_52 : decode cX6_total 52 = .ok (.iconst 1, 1) := by decide +kernel
theorem dX6_total_53 : decode cX6_total 53 = .ok (.goto 4, 3) := by decide +kernel
theorem dX6_total_56 : decode cX6_total 56 = .ok (.iconst 0, 1) := by decide +kernel
theorem dX6_total_57 : decode cX6_total 57 = .ok (.iadd, 1) := by decide +kernel
theorem dX6_total_58 : decode cX6_total 58 = .ok (.istore_n 2, 1) := by decide +kernel
theorem dX6_total_59 : decode cX6_total 59 = .ok (.iload_n 3, 1) := by decide +kernel
theorem dX6_total_60 : decode cX6_total 60 = .ok (.aload_n 0, 1) := by decide +kernel
theorem dX6_total_61 : decode cX6_total 61 = .ok (.getfield 20, 3) := by decide +kernel
theorem dX6_total_64 : decode cX6_total 64 = .ok (.iload 4, 2) := by decide +kernel
theorem dX6_total_66 : decode cX6_total 66 = .ok (.iaload, 1) := by decide +kernel
theorem dX6_total_67 : decode cX6_total 67 = .ok (.iconst 2, 1) := by decide +kernel
theorem dX6_total_68 : decode cX6_total 68 = .ok (.if_icmp .ne 7, 3) := by decide +kernel
theorem dX6_total_71 : decode cX6_total 71 = .ok (.iconst 1, 1) := by decide +kernel
theorem dX6_total_72 : decode cX6_total 72 = .ok (.goto 4, 3) := by decide +kernel
theorem dX6_total_75 : decode cX6_total 75 = .ok (.iconst 0, 1) := by decide +kernel
theorem dX6_total_76 : decode cX6_total 76 = .ok (.iadd, 1) := by decide +kernel
theorem dX6_total_77 : decode cX6_total 77 = .ok (.istore_n 3, 1) := by decide +kernel
theorem dX6_total_78 : decode cX6_total 78 = .ok (.iinc 4 1, 3) := by decide +kernel
theorem dX6_total_81 : decode cX6_total 81 = .ok (.goto (-50), 3) := by decide +kernel
theorem dX6_total_84 : decode cX6_total 84 = .ok (.iload_n 1, 1) := by decide +kernel
theorem dX6_total_85 : decode cX6_total 85 = .ok (.tableswitch 63 0 5 #[39, 44, 49, 51, 53, 58], 39) := by decide +kernel
theorem dX6_total_124 : decode cX6_total 124 = .ok (.aload_n 0, 1) := by decide +kernel
theorem dX6_total_125 : decode cX6_total 125 = .ok (.getfield 82, 3) := by decide +kernel
theorem dX6_total_128 : decode cX6_total 128 = .ok (.ireturn, 1) := by decide +kernel
theorem dX6_total_129 : decode cX6_total 129 = .ok (.aload_n 0, 1) := by decide +kernel
theorem dX6_total_130 : decode cX6_total 130 = .ok (.getfield 68, 3) := by decide +kernel
theorem dX6_total_133 : decode cX6_total 133 = .ok (.ireturn, 1) := by decide +kernel
theorem dX6_total_134 : decode cX6_total 134 = .ok (.iload_n 2, 1) := by decide +kernel
theorem dX6_total_135 : decode cX6_total 135 = .ok (.ireturn, 1) := by decide +kernel
theorem dX6_total_136 : decode cX6_total 136 = .ok (.iload_n 3, 1) := by decide +kernel
theorem dX6_total_137 : decode cX6_total 137 = .ok (.ireturn, 1) := by decide +kernel
theorem dX6_total_138 : decode cX6_total 138 = .ok (.aload_n 0, 1) := by decide +kernel
theorem dX6_total_139 : decode cX6_total 139 = .ok (.getfield 79, 3) := by decide +kernel
theorem dX6_total_142 : decode cX6_total 142 = .ok (.ireturn, 1) := by decide +kernel
theorem dX6_total_143 : decode cX6_total 143 = .ok (.aload_n 0, 1) := by decide +kernel
theorem dX6_total_144 : decode cX6_total 144 = .ok (.getfield 100, 3) := by decide +kernel
theorem dX6_total_147 : decode cX6_total 147 = .ok (.ireturn, 1) := by decide +kernel
theorem dX6_total_148 : decode cX6_total 148 = .ok (.aload_n 0, 1) := by decide +kernel
theorem dX6_total_149 : decode cX6_total 149 = .ok (.getfield 112, 3) := by decide +kernel
theorem dX6_total_152 : decode cX6_total 152 = .ok (.ireturn, 1) := by decide +kernel
theorem dJ9_max_7cf53_0 : decode cJ9_max_7cf53 0 = .ok (.iload_n 0, 1) := by decide +kernel
theorem dJ9_max_7cf53_1 : decode cJ9_max_7cf53 1 = .ok (.iload_n 1, 1) := by decide +kernel
theorem dJ9_max_7cf53_2 : decode cJ9_max_7cf53 2 = .ok (.if_icmp .lt 7, 3) := by decide +kernel
theorem dJ9_max_7cf53_5 : decode cJ9_max_7cf53 5 = .ok (.iload_n 0, 1) := by decide +kernel
theorem dJ9_max_7cf53_6 : decode cJ9_max_7cf53 6 = .ok (.goto 4, 3) := by decide +kernel
theorem dJ9_max_7cf53_9 : decode cJ9_max_7cf53 9 = .ok (.iload_n 1, 1) := by decide +kernel
theorem dJ9_max_7cf53_10 : decode cJ9_max_7cf53 10 = .ok (.ireturn, 1) := by decide +kernel
theorem dJ9_min_7cf53_0 : decode cJ9_min_7cf53 0 = .ok (.iload_n 0, 1) := by decide +kernel
theorem dJ9_min_7cf53_1 : decode cJ9_min_7cf53 1 = .ok (.iload_n 1, 1) := by decide +kernel
theorem dJ9_min_7cf53_2 : decode cJ9_min_7cf53 2 = .ok (.if_icmp .gt 7, 3) := by decide +kernel
theorem dJ9_min_7cf53_5 : decode cJ9_min_7cf53 5 = .ok (.iload_n 0, 1) := by decide +kernel
theorem dJ9_min_7cf53_6 : decode cJ9_min_7cf53 6 = .ok (.goto 4, 3) := by decide +kernel
theorem dJ9_min_7cf53_9 : decode cJ9_min_7cf53 9 = .ok (.iload_n 1, 1) := by decide +kernel
theorem dJ9_min_7cf53_10 : decode cJ9_min_7cf53 10 = .ok (.ireturn, 1) := by decide +kernel
theorem dJxa1e45_init_da8c8_0 : decode cJxa1e45_init_da8c8 0 = .ok (.aload_n 0, 1) := by decide +kernel
theorem dJxa1e45_init_da8c8_1 : decode cJxa1e45_init_da8c8 1 = .ok (.invokespecial 1, 3) := by decide +kernel
theorem dJxa1e45_init_da8c8_4 : decode cJxa1e45_init_da8c8 4 = .ok (.return_, 1) := by decide +kernel
theorem dJxc12de_init_da8c8_0 : decode cJxc12de_init_da8c8 0 = .ok (.aload_n 0, 1) := by decide +kernel
theorem dJxc12de_init_da8c8_1 : decode cJxc12de_init_da8c8 1 = .ok (.invokespecial 1, 3) := by decide +kernel
theorem dJxc12de_init_da8c8_4 : decode cJxc12de_init_da8c8 4 = .ok (.aload_n 0, 1) := by decide +kernel
theorem dJxc12de_init_da8c8_5 : decode cJxc12de_init_da8c8 5 = .ok (.iconst 0, 1) := by decide +kernel
theorem dJxc12de_init_da8c8_6 : decode cJxc12de_init_da8c8 6 = .ok (.putfield 7, 3) := by decide +kernel
theorem dJxc12de_init_da8c8_9 : decode cJxc12de_init_da8c8 9 = .ok (.return_, 1) := by decide +kernel
theorem dJx4a65c_init_da8c8_0 : decode cJx4a65c_init_da8c8 0 = .ok (.aload_n 0, 1) := by decide +kernel
theorem dJx4a65c_init_da8c8_1 : decode cJx4a65c_init_da8c8 1 = .ok (.invokespecial 1, 3) := by decide +kernel
theorem dJx4a65c_init_da8c8_4 : decode cJx4a65c_init_da8c8 4 = .ok (.aload_n 0, 1) := by decide +kernel
theorem dJx4a65c_init_da8c8_5 : decode cJx4a65c_init_da8c8 5 = .ok (.getstatic 39, 3) := by decide +kernel
theorem dJx4a65c_init_da8c8_8 : decode cJx4a65c_init_da8c8 8 = .ok (.putfield 9, 3) := by decide +kernel
theorem dJx4a65c_init_da8c8_11 : decode cJx4a65c_init_da8c8 11 = .ok (.return_, 1) := by decide +kernel
theorem dJx4a65c_grow_92f84_0 : decode cJx4a65c_grow_92f84 0 = .ok (.aload_n 0, 1) := by decide +kernel
theorem dJx4a65c_grow_92f84_1 : decode cJx4a65c_grow_92f84 1 = .ok (.getfield 9, 3) := by decide +kernel
theorem dJx4a65c_grow_92f84_4 : decode cJx4a65c_grow_92f84 4 = .ok (.arraylength, 1) := by decide +kernel
theorem dJx4a65c_grow_92f84_5 : decode cJx4a65c_grow_92f84 5 = .ok (.istore_n 2, 1) := by decide +kernel
theorem dJx4a65c_grow_92f84_6 : decode cJx4a65c_grow_92f84 6 = .ok (.iload_n 2, 1) := by decide +kernel
theorem dJx4a65c_grow_92f84_7 : decode cJx4a65c_grow_92f84 7 = .ok (.ifCond .gt 13, 3) := by decide +kernel
theorem dJx4a65c_grow_92f84_10 : decode cJx4a65c_grow_92f84 10 = .ok (.aload_n 0, 1) := by decide +kernel
theorem dJx4a65c_grow_92f84_11 : decode cJx4a65c_grow_92f84 11 = .ok (.getfield 9, 3) := by decide +kernel
theorem dJx4a65c_grow_92f84_14 : decode cJx4a65c_grow_92f84 14 = .ok (.getstatic 39, 3) := by decide +kernel
theorem dJx4a65c_grow_92f84_17 : decode cJx4a65c_grow_92f84 17 = .ok (.if_acmp .eq 28, 3) := by decide +kernel
theorem dJx4a65c_grow_92f84_20 : decode cJx4a65c_grow_92f84 20 = .ok (.iload_n 2, 1) := by decide +kernel
theorem dJx4a65c_grow_92f84_21 : decode cJx4a65c_grow_92f84 21 = .ok (.iload_n 1, 1) := by decide +kernel
theorem dJx4a65c_grow_92f84_22 : decode cJx4a65c_grow_92f84 22 = .ok (.iload_n 2, 1) := by decide +kernel
theorem dJx4a65c_grow_92f84_23 : decode cJx4a65c_grow_92f84 23 = .ok (.isub, 1) := by decide +kernel
theorem dJx4a65c_grow_92f84_24 : decode cJx4a65c_grow_92f84 24 = .ok (.iload_n 2, 1) := by decide +kernel
theorem dJx4a65c_grow_92f84_25 : decode cJx4a65c_grow_92f84 25 = .ok (.iconst 1, 1) := by decide +kernel
theorem dJx4a65c_grow_92f84_26 : decode cJx4a65c_grow_92f84 26 = .ok (.ishr, 1) := by decide +kernel
theorem dJx4a65c_grow_92f84_27 : decode cJx4a65c_grow_92f84 27 = .ok (.invokestatic 73, 3) := by decide +kernel
theorem dJx4a65c_grow_92f84_30 : decode cJx4a65c_grow_92f84 30 = .ok (.istore_n 3, 1) := by decide +kernel
theorem dJx4a65c_grow_92f84_31 : decode cJx4a65c_grow_92f84 31 = .ok (.aload_n 0, 1) := by decide +kernel
theorem dJx4a65c_grow_92f84_32 : decode cJx4a65c_grow_92f84 32 = .ok (.aload_n 0, 1) := by decide +kernel
theorem dJx4a65c_grow_92f84_33 : decode cJx4a65c_grow_92f84 33 = .ok (.getfield 9, 3) := by decide +kernel
theorem dJx4a65c_grow_92f84_36 : decode cJx4a65c_grow_92f84 36 = .ok (.iload_n 3, 1) := by decide +kernel
theorem dJx4a65c_grow_92f84_37 : decode cJx4a65c_grow_92f84 37 = .ok (.invokestatic 66, 3) := by decide +kernel
theorem dJx4a65c_grow_92f84_40 : decode cJx4a65c_grow_92f84 40 = .ok (.dup_x1, 1) := by decide +kernel
theorem dJx4a65c_grow_92f84_41 : decode cJx4a65c_grow_92f84 41 = .ok (.putfield 9, 3) := by decide +kernel
theorem dJx4a65c_grow_92f84_44 : decode cJx4a65c_grow_92f84 44 = .ok (.areturn, 1) := by decide +kernel
theorem dJx4a65c_grow_92f84_45 : decode cJx4a65c_grow_92f84 45 = .ok (.aload_n 0, 1) := by decide +kernel
theorem dJx4a65c_grow_92f84_46 : decode cJx4a65c_grow_92f84 46 = .ok (.bipush 10, 2) := by decide +kernel
theorem dJx4a65c_grow_92f84_48 : decode cJx4a65c_grow_92f84 48 = .ok (.iload_n 1, 1) := by decide +kernel
theorem dJx4a65c_grow_92f84_49 : decode cJx4a65c_grow_92f84 49 = .ok (.invokestatic 79, 3) := by decide +kernel
theorem dJx4a65c_grow_92f84_52 : decode cJx4a65c_grow_92f84 52 = .ok (.anewarray 7, 3) := by decide +kernel
theorem dJx4a65c_grow_92f84_55 : decode cJx4a65c_grow_92f84 55 = .ok (.dup_x1, 1) := by decide +kernel
theorem dJx4a65c_grow_92f84_56 : decode cJx4a65c_grow_92f84 56 = .ok (.putfield 9, 3) := by decide +kernel
theorem dJx4a65c_grow_92f84_59 : decode cJx4a65c_grow_92f84 59 = .ok (.areturn, 1) := by decide +kernel
theorem dJx4a65c_grow_d5877_0 : decode cJx4a65c_grow_d5877 0 = .ok (.aload_n 0, 1) := by decide +kernel
theorem dJx4a65c_grow_d5877_1 : decode cJx4a65c_grow_d5877 1 = .ok (.aload_n 0, 1) := by decide +kernel
theorem dJx4a65c_grow_d5877_2 : decode cJx4a65c_grow_d5877 2 = .ok (.getfield 48, 3) := by decide +kernel
theorem dJx4a65c_grow_d5877_5 : decode cJx4a65c_grow_d5877 5 = .ok (.iconst 1, 1) := by decide +kernel
theorem dJx4a65c_grow_d5877_6 : decode cJx4a65c_grow_d5877 6 = .ok (.iadd, 1) := by decide +kernel
theorem dJx4a65c_grow_d5877_7 : decode cJx4a65c_grow_d5877 7 = .ok (.invokevirtual 69, 3) := by decide +kernel
theorem dJx4a65c_grow_d5877_10 : decode cJx4a65c_grow_d5877 10 = .ok (.areturn, 1) := by decide +kernel
theorem dJx4a65c_size_8abf5_0 : decode cJx4a65c_size_8abf5 0 = .ok (.aload_n 0, 1) := by decide +kernel
theorem dJx4a65c_size_8abf5_1 : decode cJx4a65c_size_8abf5 1 = .ok (.getfield 48, 3) := by decide +kernel
theorem dJx4a65c_size_8abf5_4 : decode cJx4a65c_size_8abf5 4 = .ok (.ireturn, 1) := by decide +kernel
theorem dJx4a65c_elementData_915e3_0 : decode cJx4a65c_elementData_915e3 0 = .ok (.aload_n 0, 1) := by decide +kernel
theorem dJx4a65c_elementData_915e3_1 : decode cJx4a65c_elementData_915e3 1 = .ok (.getfield 9, 3) := by decide +kernel
theorem dJx4a65c_elementData_915e3_4 : decode cJx4a65c_elementData_915e3 4 = .ok (.iload_n 1, 1) := by decide +kernel
theorem dJx4a65c_elementData_915e3_5 : decode cJx4a65c_elementData_915e3 5 = .ok (.aaload, 1) := by decide +kernel
theorem dJx4a65c_elementData_915e3_6 : decode cJx4a65c_elementData_915e3 6 = .ok (.areturn, 1) := by decide +kernel
theorem dJx4a65c_get_915e3_0 : decode cJx4a65c_get_915e3 0 = .ok (.iload_n 1, 1) := by decide +kernel
theorem dJx4a65c_get_915e3_1 : decode cJx4a65c_get_915e3 1 = .ok (.aload_n 0, 1) := by decide +kernel
theorem dJx4a65c_get_915e3_2 : decode cJx4a65c_get_915e3 2 = .ok (.getfield 48, 3) := by decide +kernel
theorem dJx4a65c_get_915e3_5 : decode cJx4a65c_get_915e3 5 = .ok (.invokestatic 118, 3) := by decide +kernel
theorem dJx4a65c_get_915e3_8 : decode cJx4a65c_get_915e3 8 = .ok (.pop, 1) := by decide +kernel
theorem dJx4a65c_get_915e3_9 : decode cJx4a65c_get_915e3 9 = .ok (.aload_n 0, 1) := by decide +kernel
theorem dJx4a65c_get_915e3_10 : decode cJx4a65c_get_915e3 10 = .ok (.iload_n 1, 1) := by decide +kernel
theorem dJx4a65c_get_915e3_11 : decode cJx4a65c_get_915e3 11 = .ok (.invokevirtual 123, 3) := by decide +kernel
theorem dJx4a65c_get_915e3_14 : decode cJx4a65c_get_915e3 14 = .ok (.areturn, 1) := by decide +kernel
theorem dJx4a65c_add_72be8_0 : decode cJx4a65c_add_72be8 0 = .ok (.iload_n 3, 1) := by decide +kernel
theorem dJx4a65c_add_72be8_1 : decode cJx4a65c_add_72be8 1 = .ok (.aload_n 2, 1) := by decide +kernel
theorem dJx4a65c_add_72be8_2 : decode cJx4a65c_add_72be8 2 = .ok (.arraylength, 1) := by decide +kernel
theorem dJx4a65c_add_72be8_3 : decode cJx4a65c_add_72be8 3 = .ok (.if_icmp .ne 8, 3) := by decide +kernel
theorem dJx4a65c_add_72be8_6 : decode cJx4a65c_add_72be8 6 = .ok (.aload_n 0, 1) := by decide +kernel
theorem dJx4a65c_add_72be8_7 : decode cJx4a65c_add_72be8 7 = .ok (.invokevirtual 129, 3) := by decide +kernel
theorem dJx4a65c_add_72be8_10 : decode cJx4a65c_add_72be8 10 = .ok (.astore_n 2, 1) := by decide +kernel
theorem dJx4a65c_add_72be8_11 : decode cJx4a65c_add_72be8 11 = .ok (.aload_n 2, 1) := by decide +kernel
theorem dJx4a65c_add_72be8_12 : decode cJx4a65c_add_72be8 12 = .ok (.iload_n 3, 1) := by decide +kernel
theorem dJx4a65c_add_72be8_13 : decode cJx4a65c_add_72be8 13 = .ok (.aload_n 1, 1) := by decide +kernel
theorem dJx4a65c_add_72be8_14 : decode cJx4a65c_add_72be8 14 = .ok (.aastore, 1) := by decide +kernel
theorem dJx4a65c_add_72be8_15 : decode cJx4a65c_add_72be8 15 = .ok (.aload_n 0, 1) := by decide +kernel
theorem dJx4a65c_add_72be8_16 : decode cJx4a65c_add_72be8 16 = .ok (.iload_n 3, 1) := by decide +kernel
theorem dJx4a65c_add_72be8_17 : decode cJx4a65c_add_72be8 17 = .ok (.iconst 1, 1) := by decide +kernel
theorem dJx4a65c_add_72be8_18 : decode cJx4a65c_add_72be8 18 = .ok (.iadd, 1) := by decide +kernel
theorem dJx4a65c_add_72be8_19 : decode cJx4a65c_add_72be8 19 = .ok (.putfield 48, 3) := by decide +kernel
theorem dJx4a65c_add_72be8_22 : decode cJx4a65c_add_72be8 22 = .ok (.return_, 1) := by decide +kernel
theorem dJx4a65c_add_9ea2d_0 : decode cJx4a65c_add_9ea2d 0 = .ok (.aload_n 0, 1) := by decide +kernel
theorem dJx4a65c_add_9ea2d_1 : decode cJx4a65c_add_9ea2d 1 = .ok (.dup, 1) := by decide +kernel
theorem dJx4a65c_add_9ea2d_2 : decode cJx4a65c_add_9ea2d 2 = .ok (.getfield 63, 3) := by decide +kernel
theorem dJx4a65c_add_9ea2d_5 : decode cJx4a65c_add_9ea2d 5 = .ok (.iconst 1, 1) := by decide +kernel
theorem dJx4a65c_add_9ea2d_6 : decode cJx4a65c_add_9ea2d 6 = .ok (.iadd, 1) := by decide +kernel
theorem dJx4a65c_add_9ea2d_7 : decode cJx4a65c_add_9ea2d 7 = .ok (.putfield 63, 3) := by decide +kernel
theorem dJx4a65c_add_9ea2d_10 : decode cJx4a65c_add_9ea2d 10 = .ok (.aload_n 0, 1) := by decide +kernel
theorem dJx4a65c_add_9ea2d_11 : decode cJx4a65c_add_9ea2d 11 = .ok (.aload_n 1, 1) := by decide +kernel
theorem dJx4a65c_add_9ea2d_12 : decode cJx4a65c_add_9ea2d 12 = .ok (.aload_n 0, 1) := by decide +kernel
theorem dJx4a65c_add_9ea2d_13 : decode cJx4a65c_add_9ea2d 13 = .ok (.getfield 9, 3) := by decide +kernel
theorem dJx4a65c_add_9ea2d_16 : decode cJx4a65c_add_9ea2d 16 = .ok (.aload_n 0, 1) := by decide +kernel
theorem dJx4a65c_add_9ea2d_17 : decode cJx4a65c_add_9ea2d 17 = .ok (.getfield 48, 3) := by decide +kernel
theorem dJx4a65c_add_9ea2d_20 : decode cJx4a65c_add_9ea2d 20 = .ok (.invokevirtual 131, 3) := by decide +kernel
theorem dJx4a65c_add_9ea2d_23 : decode cJx4a65c_add_9ea2d 23 = .ok (.iconst 1, 1) := by decide +kernel
theorem dJx4a65c_add_9ea2d_24 : decode cJx4a65c_add_9ea2d 24 = .ok (.ireturn, 1) := by decide +kernel
theorem dJx4a65c_remove_915e3_0 : decode cJx4a65c_remove_915e3 0 = .ok (.iload_n 1, 1) := by decide +kernel
theorem dJx4a65c_remove_915e3_1 : decode cJx4a65c_remove_915e3 1 = .ok (.aload_n 0, 1) := by decide +kernel
theorem dJx4a65c_remove_915e3_2 : decode cJx4a65c_remove_915e3 2 = .ok (.getfield 48, 3) := by decide +kernel
theorem dJx4a65c_remove_915e3_5 : decode cJx4a65c_remove_915e3 5 = .ok (.invokestatic 118, 3) := by decide +kernel
theorem dJx4a65c_remove_915e3_8 : decode cJx4a65c_remove_915e3 8 = .ok (.pop, 1) := by decide +kernel
theorem dJx4a65c_remove_915e3_9 : decode cJx4a65c_remove_915e3 9 = .ok (.aload_n 0, 1) := by decide +kernel
theorem dJx4a65c_remove_915e3_10 : decode cJx4a65c_remove_915e3 10 = .ok (.getfield 9, 3) := by decide +kernel
theorem dJx4a65c_remove_915e3_13 : decode cJx4a65c_remove_915e3 13 = .ok (.astore_n 2, 1) := by decide +kernel
theorem dJx4a65c_remove_915e3_14 : decode cJx4a65c_remove_915e3 14 = .ok (.aload_n 2, 1) := by decide +kernel
theorem dJx4a65c_remove_915e3_15 : decode cJx4a65c_remove_915e3 15 = .ok (.iload_n 1, 1) := by decide +kernel
theorem dJx4a65c_remove_915e3_16 : decode cJx4a65c_remove_915e3 16 = .ok (.aaload, 1) := by decide +kernel
theorem dJx4a65c_remove_915e3_17 : decode cJx4a65c_remove_915e3 17 = .ok (.astore_n 3, 1) := by decide +kernel
theorem dJx4a65c_remove_915e3_18 : decode cJx4a65c_remove_915e3 18 = .ok (.aload_n 0, 1) := by decide +kernel
theorem dJx4a65c_remove_915e3_19 : decode cJx4a65c_remove_915e3 19 = .ok (.aload_n 2, 1) := by decide +kernel
theorem dJx4a65c_remove_915e3_20 : decode cJx4a65c_remove_915e3 20 = .ok (.iload_n 1, 1) := by decide +kernel
theorem dJx4a65c_remove_915e3_21 : decode cJx4a65c_remove_915e3 21 = .ok (.invokevirtual 144, 3) := by decide +kernel
theorem dJx4a65c_remove_915e3_24 : decode cJx4a65c_remove_915e3 24 = .ok (.aload_n 3, 1) := by decide +kernel
theorem dJx4a65c_remove_915e3_25 : decode cJx4a65c_remove_915e3 25 = .ok (.areturn, 1) := by decide +kernel
theorem dJx4a65c_fastRemove_b59b0_0 : decode cJx4a65c_fastRemove_b59b0 0 = .ok (.aload_n 0, 1) := by decide +kernel
theorem dJx4a65c_fastRemove_b59b0_1 : decode cJx4a65c_fastRemove_b59b0 1 = .ok (.dup, 1) := by decide +kernel
theorem dJx4a65c_fastRemove_b59b0_2 : decode cJx4a65c_fastRemove_b59b0 2 = .ok (.getfield 63, 3) := by decide +kernel
theorem dJx4a65c_fastRemove_b59b0_5 : decode cJx4a65c_fastRemove_b59b0 5 = .ok (.iconst 1, 1) := by decide +kernel
theorem dJx4a65c_fastRemove_b59b0_6 : decode cJx4a65c_fastRemove_b59b0 6 = .ok (.iadd, 1) := by decide +kernel
theorem dJx4a65c_fastRemove_b59b0_7 : decode cJx4a65c_fastRemove_b59b0 7 = .ok (.putfield 63, 3) := by decide +kernel
theorem dJx4a65c_fastRemove_b59b0_10 : decode cJx4a65c_fastRemove_b59b0 10 = .ok (.aload_n 0, 1) := by decide +kernel
theorem dJx4a65c_fastRemove_b59b0_11 : decode cJx4a65c_fastRemove_b59b0 11 = .ok (.getfield 48, 3) := by decide +kernel
theorem dJx4a65c_fastRemove_b59b0_14 : decode cJx4a65c_fastRemove_b59b0 14 = .ok (.iconst 1, 1) := by decide +kernel
theorem dJx4a65c_fastRemove_b59b0_15 : decode cJx4a65c_fastRemove_b59b0 15 = .ok (.isub, 1) := by decide +kernel
theorem dJx4a65c_fastRemove_b59b0_16 : decode cJx4a65c_fastRemove_b59b0 16 = .ok (.dup, 1) := by decide +kernel
theorem dJx4a65c_fastRemove_b59b0_17 : decode cJx4a65c_fastRemove_b59b0 17 = .ok (.istore_n 3, 1) := by decide +kernel
theorem dJx4a65c_fastRemove_b59b0_18 : decode cJx4a65c_fastRemove_b59b0 18 = .ok (.iload_n 2, 1) := by decide +kernel
theorem dJx4a65c_fastRemove_b59b0_19 : decode cJx4a65c_fastRemove_b59b0 19 = .ok (.if_icmp .le 15, 3) := by decide +kernel
theorem dJx4a65c_fastRemove_b59b0_22 : decode cJx4a65c_fastRemove_b59b0 22 = .ok (.aload_n 1, 1) := by decide +kernel
theorem dJx4a65c_fastRemove_b59b0_23 : decode cJx4a65c_fastRemove_b59b0 23 = .ok (.iload_n 2, 1) := by decide +kernel
