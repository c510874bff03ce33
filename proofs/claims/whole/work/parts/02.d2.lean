theorem dX12_does_54 : decode cX12_does 54 = .ok (.iload 7, 2) := by decide +kernel
theorem dX12_does_56 : decode cX12_does 56 = .ok (.iconst 1, 1) := by decide +kernel
theorem dX12_does_57 : decode cX12_does 57 = .ok (.isub, 1) := by decide +kernel
theorem dX12_does_58 : decode cX12_does 58 = .ok (.invokevirtual 118, 3) := by decide +kernel
theorem dX12_does_61 : decode cX12_does 61 = .ok (.aload_n 0, 1) := by decide +kernel
theorem dX12_does_62 : decode cX12_does 62 = .ok (.getfield 13, 3) := by decide +kernel
theorem dX12_does_65 : decode cX12_does 65 = .ok (.aload_n 0, 1) := by decide +kernel
theorem dX12_does_66 : decode cX12_does 66 = .ok (.iload_n 1, 1) := by decide +kernel
theorem dX12_does_67 : decode cX12_does 67 = .ok (.iload 7, 2) := by decide +kernel
theorem dX12_does_69 : decode cX12_does 69 = .ok (.invokevirtual 118, 3) := by decide +kernel
theorem dX12_does_72 : decode cX12_does 72 = .ok (.iconst 4, 1) := by decide +kernel
theorem dX12_does_73 : decode cX12_does 73 = .ok (.invokestatic 76, 3) := by decide +kernel
theorem dX12_does_76 : decode cX12_does 76 = .ok (.iinc 7 (-1), 3) := by decide +kernel
theorem dX12_does_79 : decode cX12_does 79 = .ok (.goto (-38), 3) := by decide +kernel
theorem dX12_does_82 : decode cX12_does 82 = .ok (.aload_n 0, 1) := by decide +kernel
theorem dX12_does_83 : decode cX12_does 83 = .ok (.getfield 13, 3) := by decide +kernel
theorem dX12_does_86 : decode cX12_does 86 = .ok (.aload_n 0, 1) := by decide +kernel
theorem dX12_does_87 : decode cX12_does 87 = .ok (.iload_n 1, 1) := by decide +kernel
theorem dX12_does_88 : decode cX12_does 88 = .ok (.iload 4, 2) := by decide +kernel
theorem dX12_does_90 : decode cX12_does 90 = .ok (.invokevirtual 118, 3) := by decide +kernel
theorem dX12_does_93 : decode cX12_does 93 = .ok (.iload_n 3, 1) := by decide +kernel
theorem dX12_does_94 : decode cX12_does 94 = .ok (.iastore, 1) := by decide +kernel
theorem dX12_does_95 : decode cX12_does 95 = .ok (.aload_n 0, 1) := by decide +kernel
theorem dX12_does_96 : decode cX12_does 96 = .ok (.getfield 25, 3) := by decide +kernel
theorem dX12_does_99 : decode cX12_does 99 = .ok (.iconst 0, 1) := by decide +kernel
theorem dX12_does_100 : decode cX12_does 100 = .ok (.aload_n 0, 1) := by decide +kernel
theorem dX12_does_101 : decode cX12_does 101 = .ok (.getfield 13, 3) := by decide +kernel
theorem dX12_does_104 : decode cX12_does 104 = .ok (.aload_n 0, 1) := by decide +kernel
theorem dX12_does_105 : decode cX12_does 105 = .ok (.iload_n 1, 1) := by decide +kernel
theorem dX12_does_106 : decode cX12_does 106 = .ok (.iload 4, 2) := by decide +kernel
theorem dX12_does_108 : decode cX12_does 108 = .ok (.invokevirtual 118, 3) := by decide +kernel
theorem dX12_does_111 : decode cX12_does 111 = .ok (.iconst 1, 1) := by decide +kernel
theorem dX12_does_112 : decode cX12_does 112 = .ok (.iadd, 1) := by decide +kernel
theorem dX12_does_113 : decode cX12_does 113 = .ok (.iconst 3, 1) := by decide +kernel
theorem dX12_does_114 : decode cX12_does 114 = .ok (.invokestatic 76, 3) := by decide +kernel
theorem dX12_does_117 : decode cX12_does 117 = .ok (.aload_n 0, 1) := by decide +kernel
theorem dX12_does_118 : decode cX12_does 118 = .ok (.iload_n 1, 1) := by decide +kernel
theorem dX12_does_119 : decode cX12_does 119 = .ok (.bipush 13, 2) := by decide +kernel
theorem dX12_does_121 : decode cX12_does 121 = .ok (.iload 6, 2) := by decide +kernel
theorem dX12_does_123 : decode cX12_does 123 = .ok (.iconst 1, 1) := by decide +kernel
theorem dX12_does_124 : decode cX12_does 124 = .ok (.iadd, 1) := by decide +kernel
theorem dX12_does_125 : decode cX12_does 125 = .ok (.invokevirtual 80, 3) := by decide +kernel
theorem dX12_does_128 : decode cX12_does 128 = .ok (.iload_n 2, 1) := by decide +kernel
theorem dX12_does_129 : decode cX12_does 129 = .ok (.ifCond .ne 55, 3) := by decide +kernel
theorem dX12_does_132 : decode cX12_does 132 = .ok (.iload 5, 2) := by decide +kernel
theorem dX12_does_134 : decode cX12_does 134 = .ok (.ifCond .eq 50, 3) := by decide +kernel
theorem dX12_does_137 : decode cX12_does 137 = .ok (.aload_n 0, 1) := by decide +kernel
theorem dX12_does_138 : decode cX12_does 138 = .ok (.getfield 13, 3) := by decide +kernel
theorem dX12_does_141 : decode cX12_does 141 = .ok (.aload_n 0, 1) := by decide +kernel
theorem dX12_does_142 : decode cX12_does 142 = .ok (.iload_n 1, 1) := by decide +kernel
theorem dX12_does_143 : decode cX12_does 143 = .ok (.iload 4, 2) := by decide +kernel
theorem dX12_does_145 : decode cX12_does 145 = .ok (.iconst 1, 1) := by decide +kernel
theorem dX12_does_146 : decode cX12_does 146 = .ok (.iadd, 1) := by decide +kernel
theorem dX12_does_147 : decode cX12_does 147 = .ok (.invokevirtual 118, 3) := by decide +kernel
theorem dX12_does_150 : decode cX12_does 150 = .ok (.aload_n 0, 1) := by decide +kernel
theorem dX12_does_151 : decode cX12_does 151 = .ok (.getfield 13, 3) := by decide +kernel
theorem dX12_does_154 : decode cX12_does 154 = .ok (.aload_n 0, 1) := by decide +kernel
theorem dX12_does_155 : decode cX12_does 155 = .ok (.iload_n 1, 1) := by decide +kernel
theorem dX12_does_156 : decode cX12_does 156 = .ok (.iload 4, 2) := by decide +kernel
theorem dX12_does_158 : decode cX12_does 158 = .ok (.invokevirtual 118, 3) := by decide +kernel
theorem dX12_does_161 : decode cX12_does 161 = .ok (.iconst 4, 1) := by decide +kernel
theorem dX12_does_162 : decode cX12_does 162 = .ok (.iload 6, 2) := by decide +kernel
theorem dX12_does_164 : decode cX12_does 164 = .ok (.iconst 1, 1) := by decide +kernel
theorem dX12_does_165 : decode cX12_does 165 = .ok (.isub, 1) := by decide +kernel
theorem dX12_does_166 : decode cX12_does 166 = .ok (.iload 4, 2) := by decide +kernel
theorem dX12_does_168 : decode cX12_does 168 = .ok (.isub, 1) := by decide +kernel
theorem dX12_does_169 : decode cX12_does 169 = .ok (.imul, 1) := by decide +kernel
theorem dX12_does_170 : decode cX12_does 170 = .ok (.invokestatic 76, 3) := by decide +kernel
theorem dX12_does_173 : decode cX12_does 173 = .ok (.aload_n 0, 1) := by decide +kernel
theorem dX12_does_174 : decode cX12_does 174 = .ok (.iload_n 1, 1) := by decide +kernel
theorem dX12_does_175 : decode cX12_does 175 = .ok (.bipush 13, 2) := by decide +kernel
theorem dX12_does_177 : decode cX12_does 177 = .ok (.iload 6, 2) := by decide +kernel
theorem dX12_does_179 : decode cX12_does 179 = .ok (.iconst 1, 1) := by decide +kernel
theorem dX12_does_180 : decode cX12_does 180 = .ok (.isub, 1) := by decide +kernel
theorem dX12_does_181 : decode cX12_does 181 = .ok (.invokevirtual 80, 3) := by decide +kernel
theorem dX12_does_184 : decode cX12_does 184 = .ok (.return_, 1) := by decide +kernel
theorem dX12_tells_0 : decode cX12_tells 0 = .ok (.aload_n 0, 1) := by decide +kernel
theorem dX12_tells_1 : decode cX12_tells 1 = .ok (.iload_n 1, 1) := by decide +kernel
theorem dX12_tells_2 : decode cX12_tells 2 = .ok (.iconst 0, 1) := by decide +kernel
theorem dX12_tells_3 : decode cX12_tells 3 = .ok (.invokevirtual 104, 3) := by decide +kernel
theorem dX12_tells_6 : decode cX12_tells 6 = .ok (.iconst 4, 1) := by decide +kernel
theorem dX12_tells_7 : decode cX12_tells 7 = .ok (.if_icmp .ne 12, 3) := by decide +kernel
theorem dX12_tells_10 : decode cX12_tells 10 = .ok (.aload_n 0, 1) := by decide +kernel
theorem dX12_tells_11 : decode cX12_tells 11 = .ok (.iload_n 1, 1) := by decide +kernel
theorem dX12_tells_12 : decode cX12_tells 12 = .ok (.iload_n 2, 1) := by decide +kernel
theorem dX12_tells_13 : decode cX12_tells 13 = .ok (.iload_n 3, 1) := by decide +kernel
theorem dX12_tells_14 : decode cX12_tells 14 = .ok (.invokevirtual 130, 3) := by decide +kernel
theorem dX12_tells_17 : decode cX12_tells 17 = .ok (.iconst 1, 1) := by decide +kernel
theorem dX12_tells_18 : decode cX12_tells 18 = .ok (.ireturn, 1) := by decide +kernel
theorem dX12_tells_19 : decode cX12_tells 19 = .ok (.aload_n 0, 1) := by decide +kernel
theorem dX12_tells_20 : decode cX12_tells 20 = .ok (.iload_n 1, 1) := by decide +kernel
theorem dX12_tells_21 : decode cX12_tells 21 = .ok (.bipush 15, 2) := by decide +kernel
theorem dX12_tells_23 : decode cX12_tells 23 = .ok (.invokevirtual 104, 3) := by decide +kernel
theorem dX12_tells_26 : decode cX12_tells 26 = .ok (.istore 4, 2) := by decide +kernel
theorem dX12_tells_28 : decode cX12_tells 28 = .ok (.iload 4, 2) := by decide +kernel
theorem dX12_tells_30 : decode cX12_tells 30 = .ok (.bipush 120, 2) := by decide +kernel
theorem dX12_tells_32 : decode cX12_tells 32 = .ok (.if_icmp .ne 11, 3) := by decide +kernel
theorem dX12_tells_35 : decode cX12_tells 35 = .ok (.aload_n 0, 1) := by decide +kernel
theorem dX12_tells_36 : decode cX12_tells 36 = .ok (.iload_n 1, 1) := by decide +kernel
theorem dX12_tells_37 : decode cX12_tells 37 = .ok (.iconst 3, 1) := by decide +kernel
theorem dX12_tells_38 : decode cX12_tells 38 = .ok (.invokevirtual 68, 3) := by decide +kernel
theorem dX12_tells_41 : decode cX12_tells 41 = .ok (.iconst 0, 1) := by decide +kernel
theorem dX12_tells_42 : decode cX12_tells 42 = .ok (.ireturn, 1) := by decide +kernel
theorem dX12_tells_43 : decode cX12_tells 43 = .ok (.sipush 2140, 3) := by decide +kernel
theorem dX12_tells_46 : decode cX12_tells 46 = .ok (.sipush 1600, 3) := by decide +kernel
theorem dX12_tells_49 : decode cX12_tells 49 = .ok (.iload_n 1, 1) := by decide +kernel
theorem dX12_tells_50 : decode cX12_tells 50 = .ok (.imul, 1) := by decide +kernel
theorem dX12_tells_51 : decode cX12_tells 51 = .ok (.iadd, 1) := by decide +kernel
theorem dX12_tells_52 : decode cX12_tells 52 = .ok (.sipush 1000, 3) := by decide +kernel
theorem dX12_tells_55 : decode cX12_tells 55 = .ok (.iadd, 1) := by decide +kernel
theorem dX12_tells_56 : decode cX12_tells 56 = .ok (.iconst 5, 1) := by decide +kernel
theorem dX12_tells_57 : decode cX12_tells 57 = .ok (.iload 4, 2) := by decide +kernel
theorem dX12_tells_59 : decode cX12_tells 59 = .ok (.imul, 1) := by decide +kernel
theorem dX12_tells_60 : decode cX12_tells 60 = .ok (.iadd, 1) := by decide +kernel
theorem dX12_tells_61 : decode cX12_tells 61 = .ok (.istore 5, 2) := by decide +kernel
theorem dX12_tells_63 : decode cX12_tells 63 = .ok (.aload_n 0, 1) := by decide +kernel
theorem dX12_tells_64 : decode cX12_tells 64 = .ok (.getfield 13, 3) := by decide +kernel
theorem dX12_tells_67 : decode cX12_tells 67 = .ok (.iload 5, 2) := by decide +kernel
theorem dX12_tells_69 : decode cX12_tells 69 = .ok (.iload_n 2, 1) := by decide +kernel
theorem dX12_tells_70 : decode cX12_tells 70 = .ok (.iastore, 1) := by decide +kernel
theorem dX12_tells_71 : decode cX12_tells 71 = .ok (.aload_n 0, 1) := by decide +kernel
theorem dX12_tells_72 : decode cX12_tells 72 = .ok (.getfield 13, 3) := by decide +kernel
theorem dX12_tells_75 : decode cX12_tells 75 = .ok (.iload 5, 2) := by decide +kernel
theorem dX12_tells_77 : decode cX12_tells 77 = .ok (.iconst 1, 1) := by decide +kernel
theorem dX12_tells_78 : decode cX12_tells 78 = .ok (.iadd, 1) := by decide +kernel
theorem dX12_tells_79 : decode cX12_tells 79 = .ok (.iload_n 3, 1) := by decide +kernel
theorem dX12_tells_80 : decode cX12_tells 80 = .ok (.iastore, 1) := by decide +kernel
theorem dX12_tells_81 : decode cX12_tells 81 = .ok (.aload_n 0, 1) := by decide +kernel
theorem dX12_tells_82 : decode cX12_tells 82 = .ok (.getfield 25, 3) := by decide +kernel
theorem dX12_tells_85 : decode cX12_tells 85 = .ok (.iconst 0, 1) := by decide +kernel
theorem dX12_tells_86 : decode cX12_tells 86 = .ok (.aload_n 0, 1) := by decide +kernel
theorem dX12_tells_87 : decode cX12_tells 87 = .ok (.getfield 13, 3) := by decide +kernel
theorem dX12_tells_90 : decode cX12_tells 90 = .ok (.iload 5, 2) := by decide +kernel
theorem dX12_tells_92 : decode cX12_tells 92 = .ok (.iconst 2, 1) := by decide +kernel
theorem dX12_tells_93 : decode cX12_tells 93 = .ok (.iadd, 1) := by decide +kernel
theorem dX12_tells_94 : decode cX12_tells 94 = .ok (.iconst 3, 1) := by decide +kernel
theorem dX12_tells_95 : decode cX12_tells 95 = .ok (.invokestatic 76, 3) := by decide +kernel
theorem dX12_tells_98 : decode cX12_tells 98 = .ok (.aload_n 0, 1) := by decide +kernel
theorem dX12_tells_99 : decode cX12_tells 99 = .ok (.iload_n 1, 1) := by decide +kernel
theorem dX12_tells_100 : decode cX12_tells 100 = .ok (.bipush 15, 2) := by decide +kernel
theorem dX12_tells_102 : decode cX12_tells 102 = .ok (.iload 4, 2) := by decide +kernel
theorem dX12_tells_104 : decode cX12_tells 104 = .ok (.iconst 1, 1) := by decide +kernel
theorem dX12_tells_105 : decode cX12_tells 105 = .ok (.iadd, 1) := by decide +kernel
theorem dX12_tells_106 : decode cX12_tells 106 = .ok (.invokevirtual 80, 3) := by decide +kernel
theorem dX12_tells_109 : decode cX12_tells 109 = .ok (.iconst 1, 1) := by decide +kernel
theorem dX12_tells_110 : decode cX12_tells 110 = .ok (.ireturn, 1) := by decide +kernel
theorem dX12_turnsLogs_0 : decode cX12_turnsLogs 0 = .ok (.sipush 2140, 3) := by decide +kernel
theorem dX12_turnsLogs_3 : decode cX12_turnsLogs 3 = .ok (.sipush 1600, 3) := by decide +kernel
theorem dX12_turnsLogs_6 : decode cX12_turnsLogs 6 = .ok (.iload_n 1, 1) := by decide +kernel
theorem dX12_turnsLogs_7 : decode cX12_turnsLogs 7 = .ok (.imul, 1) := by decide +kernel
theorem dX12_turnsLogs_8 : decode cX12_turnsLogs 8 = .ok (.iadd, 1) := by decide +kernel
theorem dX12_turnsLogs_9 : decode cX12_turnsLogs 9 = .ok (.istore_n 2, 1) := by decide +kernel
theorem dX12_turnsLogs_10 : decode cX12_turnsLogs 10 = .ok (.aload_n 0, 1) := by decide +kernel
theorem dX12_turnsLogs_11 : decode cX12_turnsLogs 11 = .ok (.getfield 13, 3) := by decide +kernel
theorem dX12_turnsLogs_14 : decode cX12_turnsLogs 14 = .ok (.iload_n 2, 1) := by decide +kernel
theorem dX12_turnsLogs_15 : decode cX12_turnsLogs 15 = .ok (.sipush 1000, 3) := by decide +kernel
theorem dX12_turnsLogs_18 : decode cX12_turnsLogs 18 = .ok (.iadd, 1) := by decide +kernel
theorem dX12_turnsLogs_19 : decode cX12_turnsLogs 19 = .ok (.aload_n 0, 1) := by decide +kernel
theorem dX12_turnsLogs_20 : decode cX12_turnsLogs 20 = .ok (.getfield 13, 3) := by decide +kernel
theorem dX12_turnsLogs_23 : decode cX12_turnsLogs 23 = .ok (.iload_n 2, 1) := by decide +kernel
theorem dX12_turnsLogs_24 : decode cX12_turnsLogs 24 = .ok (.sipush 400, 3) := by decide +kernel
theorem dX12_turnsLogs_27 : decode cX12_turnsLogs 27 = .ok (.iadd, 1) := by decide +kernel
theorem dX12_turnsLogs_28 : decode cX12_turnsLogs 28 = .ok (.sipush 600, 3) := by decide +kernel
theorem dX12_turnsLogs_31 : decode cX12_turnsLogs 31 = .ok (.invokestatic 76, 3) := by decide +kernel
theorem dX12_turnsLogs_34 : decode cX12_turnsLogs 34 = .ok (.aload_n 0, 1) := by decide +kernel
theorem dX12_turnsLogs_35 : decode cX12_turnsLogs 35 = .ok (.iload_n 1, 1) := by decide +kernel
theorem dX12_turnsLogs_36 : decode cX12_turnsLogs 36 = .ok (.bipush 14, 2) := by decide +kernel
theorem dX12_turnsLogs_38 : decode cX12_turnsLogs 38 = .ok (.aload_n 0, 1) := by decide +kernel
theorem dX12_turnsLogs_39 : decode cX12_turnsLogs 39 = .ok (.iload_n 1, 1) := by decide +kernel
theorem dX12_turnsLogs_40 : decode cX12_turnsLogs 40 = .ok (.bipush 15, 2) := by decide +kernel
theorem dX12_turnsLogs_42 : decode cX12_turnsLogs 42 = .ok (.invokevirtual 104, 3) := by decide +kernel
theorem dX12_turnsLogs_45 : decode cX12_turnsLogs 45 = .ok (.invokevirtual 80, 3) := by decide +kernel
theorem dX12_turnsLogs_48 : decode cX12_turnsLogs 48 = .ok (.aload_n 0, 1) := by decide +kernel
theorem dX12_turnsLogs_49 : decode cX12_turnsLogs 49 = .ok (.iload_n 1, 1) := by decide +kernel
theorem dX12_turnsLogs_50 : decode cX12_turnsLogs 50 = .ok (.bipush 15, 2) := by decide +kernel
theorem dX12_turnsLogs_52 : decode cX12_turnsLogs 52 = .ok (.iconst 0, 1) := by decide +kernel
theorem dX12_turnsLogs_53 : decode cX12_turnsLogs 53 = .ok (.invokevirtual 80, 3) := by decide +kernel
theorem dX12_turnsLogs_56 : decode cX12_turnsLogs 56 = .ok (.return_, 1) := by decide +kernel
theorem dX12_areAlike_0 : decode cX12_areAlike 0 = .ok (.aload_n 0, 1) := by decide +kernel
theorem dX12_areAlike_1 : decode cX12_areAlike 1 = .ok (.iload_n 1, 1) := by decide +kernel
theorem dX12_areAlike_2 : decode cX12_areAlike 2 = .ok (.iload_n 2, 1) := by decide +kernel
theorem dX12_areAlike_3 : decode cX12_areAlike 3 = .ok (.invokevirtual 133, 3) := by decide +kernel
theorem dX12_areAlike_6 : decode cX12_areAlike 6 = .ok (.iconst 0, 1) := by decide +kernel
theorem dX12_areAlike_7 : decode cX12_areAlike 7 = .ok (.istore 4, 2) := by decide +kernel
theorem dX12_areAlike_9 : decode cX12_areAlike 9 = .ok (.iload 4, 2) := by decide +kernel
theorem dX12_areAlike_11 : decode cX12_areAlike 11 = .ok (.aload_n 0, 1) := by decide +kernel
theorem dX12_areAlike_12 : decode cX12_areAlike 12 = .ok (.iload_n 1, 1) := by decide +kernel
theorem dX12_areAlike_13 : decode cX12_areAlike 13 = .ok (.iconst 5, 1) := by decide +kernel
theorem dX12_areAlike_14 : decode cX12_areAlike 14 = .ok (.invokevirtual 104, 3) := by decide +kernel
theorem dX12_areAlike_17 : decode cX12_areAlike 17 = .ok (.if_icmp .ge 37, 3) := by decide +kernel
theorem dX12_areAlike_20 : decode cX12_areAlike 20 = .ok (.aload_n 0, 1) := by decide +kernel
theorem dX12_areAlike_21 : decode cX12_areAlike 21 = .ok (.getfield 13, 3) := by decide +kernel
theorem dX12_areAlike_24 : decode cX12_areAlike 24 = .ok (.iload_n 3, 1) := by decide +kernel
theorem dX12_areAlike_25 : decode cX12_areAlike 25 = .ok (.iconst 2, 1) := by decide +kernel
theorem dX12_areAlike_26 : decode cX12_areAlike 26 = .ok (.iadd, 1) := by decide +kernel
theorem dX12_areAlike_27 : decode cX12_areAlike 27 = .ok (.aload_n 0, 1) := by decide +kernel
theorem dX12_areAlike_28 : decode cX12_areAlike 28 = .ok (.iload_n 1, 1) := by decide +kernel
theorem dX12_areAlike_29 : decode cX12_areAlike 29 = .ok (.iload 4, 2) := by decide +kernel
theorem dX12_areAlike_31 : decode cX12_areAlike 31 = .ok (.invokevirtual 111, 3) := by decide +kernel
theorem dX12_areAlike_34 : decode cX12_areAlike 34 = .ok (.iadd, 1) := by decide +kernel
theorem dX12_areAlike_35 : decode cX12_areAlike 35 = .ok (.iaload, 1) := by decide +kernel
theorem dX12_areAlike_36 : decode cX12_areAlike 36 = .ok (.aload_n 0, 1) := by decide +kernel
theorem dX12_areAlike_37 : decode cX12_areAlike 37 = .ok (.getfield 25, 3) := by decide +kernel
theorem dX12_areAlike_40 : decode cX12_areAlike 40 = .ok (.iload 4, 2) := by decide +kernel
theorem dX12_areAlike_42 : decode cX12_areAlike 42 = .ok (.iaload, 1) := by decide +kernel
theorem dX12_areAlike_43 : decode cX12_areAlike 43 = .ok (.if_icmp .eq 5, 3) := by decide +kernel
theorem dX12_areAlike_46 : decode cX12_areAlike 46 = .ok (.iconst 0, 1) := by decide +kernel
theorem dX12_areAlike_47 : decode cX12_areAlike 47 = .ok (.ireturn, 1) := by decide +kernel
theorem dX12_areAlike_48 : decode cX12_areAlike 48 = .ok (.iinc 4 1, 3) := by decide +kernel
theorem dX12_areAlike_51 : decode cX12_areAlike 51 = .ok (.goto (-42), 3) := by decide +kernel
theorem dX12_areAlike_54 : decode cX12_areAlike 54 = .ok (.iconst 1, 1) := by decide +kernel
theorem dX12_areAlike_55 : decode cX12_areAlike 55 = .ok (.ireturn, 1) := by decide +kernel
theorem dX12_changes_0 : decode cX12_changes 0 = .ok (.aload_n 0, 1) := by decide +kernel
theorem dX12_changes_1 : decode cX12_changes 1 = .ok (.iload_n 1, 1) := by decide +kernel
theorem dX12_changes_2 : decode cX12_changes 2 = .ok (.iconst 0, 1) := by decide +kernel
theorem dX12_changes_3 : decode cX12_changes 3 = .ok (.invokevirtual 104, 3) := by decide +kernel
theorem dX12_changes_6 : decode cX12_changes 6 = .ok (.ifCond .ne 4, 3) := by decide +kernel
theorem dX12_changes_9 : decode cX12_changes 9 = .ok (.return_, 1) := by decide +kernel
theorem dX12_changes_10 : decode cX12_changes 10 = .ok (.aload_n 0, 1) := by decide +kernel
theorem dX12_changes_11 : decode cX12_changes 11 = .ok (.iload_n 1, 1) := by decide +kernel
theorem dX12_changes_12 : decode cX12_changes 12 = .ok (.iload_n 3, 1) := by decide +kernel
theorem dX12_changes_13 : decode cX12_changes 13 = .ok (.invokevirtual 136, 3) := by decide +kernel
theorem dX12_changes_16 : decode cX12_changes 16 = .ok (.istore 5, 2) := by decide +kernel
theorem dX12_changes_18 : decode cX12_changes 18 = .ok (.aload_n 0, 1) := by decide +kernel
theorem dX12_changes_19 : decode cX12_changes 19 = .ok (.iload_n 1, 1) := by decide +kernel
theorem dX12_changes_20 : decode cX12_changes 20 = .ok (.iload 4, 2) := by decide +kernel
theorem dX12_changes_22 : decode cX12_changes 22 = .ok (.invokevirtual 136, 3) := by decide +kernel
theorem dX12_changes_25 : decode cX12_changes 25 = .ok (.istore 6, 2) := by decide +kernel
theorem dX12_changes_27 : decode cX12_changes 27 = .ok (.iload 5, 2) := by decide +kernel
theorem dX12_changes_29 : decode cX12_changes 29 = .ok (.ifCond .eq 20, 3) := by decide +kernel
theorem dX12_changes_32 : decode cX12_changes 32 = .ok (.iload 6, 2) := by decide +kernel
theorem dX12_changes_34 : decode cX12_changes 34 = .ok (.ifCond .eq 15, 3) := by decide +kernel
theorem dX12_changes_37 : decode cX12_changes 37 = .ok (.aload_n 0, 1) := by decide +kernel
theorem dX12_changes_38 : decode cX12_changes 38 = .ok (.iload_n 1, 1) := by decide +kernel
theorem dX12_changes_39 : decode cX12_changes 39 = .ok (.iload_n 3, 1) := by decide +kernel
theorem dX12_changes_40 : decode cX12_changes 40 = .ok (.iload 4, 2) := by decide +kernel
theorem dX12_changes_42 : decode cX12_changes 42 = .ok (.invokevirtual 139, 3) := by decide +kernel
theorem dX12_changes_45 : decode cX12_changes 45 = .ok (.ifCond .eq 4, 3) := by decide +kernel
theorem dX12_changes_48 : decode cX12_changes 48 = .ok (.return_, 1) := by decide +kernel
theorem dX12_changes_49 : decode cX12_changes 49 = .ok (.iload 5, 2) := by decide +kernel
theorem dX12_changes_51 : decode cX12_changes 51 = .ok (.ifCond .eq 20, 3) := by decide +kernel
theorem dX12_changes_54 : decode cX12_changes 54 = .ok (.aload_n 0, 1) := by decide +kernel
theorem dX12_changes_55 : decode cX12_changes 55 = .ok (.iload_n 1, 1) := by decide +kernel
theorem dX12_changes_56 : decode cX12_changes 56 = .ok (.iload_n 3, 1) := by decide +kernel
theorem dX12_changes_57 : decode cX12_changes 57 = .ok (.invokevirtual 133, 3) := by decide +kernel
theorem dX12_changes_60 : decode cX12_changes 60 = .ok (.aload_n 0, 1) := by decide +kernel
theorem dX12_changes_61 : decode cX12_changes 61 = .ok (.iload_n 1, 1) := by decide +kernel
theorem dX12_changes_62 : decode cX12_changes 62 = .ok (.iconst 0, 1) := by decide +kernel
theorem dX12_changes_63 : decode cX12_changes 63 = .ok (.iload_n 2, 1) := by decide +kernel
theorem dX12_changes_64 : decode cX12_changes 64 = .ok (.invokevirtual 142, 3) := by decide +kernel
theorem dX12_changes_67 : decode cX12_changes 67 = .ok (.ifCond .ne 4, 3) := by decide +kernel
theorem dX12_changes_70 : decode cX12_changes 70 = .ok (.return_, 1) := by decide +kernel
theorem dX12_changes_71 : decode cX12_changes 71 = .ok (.iload 6, 2) := by decide +kernel
theorem dX12_changes_73 : decode cX12_changes 73 = .ok (.ifCond .eq 19, 3) := by decide +kernel
theorem dX12_changes_76 : decode cX12_changes 76 = .ok (.aload_n 0, 1) := by decide +kernel
theorem dX12_changes_77 : decode cX12_changes 77 = .ok (.iload_n 1, 1) := by decide +kernel
theorem dX12_changes_78 : decode cX12_changes 78 = .ok (.iload 4, 2) := by decide +kernel
theorem dX12_changes_80 : decode cX12_changes 80 = .ok (.invokevirtual 133, 3) := by decide +kernel
theorem dX12_changes_83 : decode cX12_changes 83 = .ok (.aload_n 0, 1) := by decide +kernel
theorem dX12_changes_84 : decode cX12_changes 84 = .ok (.iload_n 1, 1) := by decide +kernel
theorem dX12_changes_85 : decode cX12_changes 85 = .ok (.iconst 1, 1) := by decide +kernel
theorem dX12_changes_86 : decode cX12_changes 86 = .ok (.iload_n 2, 1) := by decide +kernel
theorem dX12_changes_87 : decode cX12_changes 87 = .ok (.invokevirtual 142, 3) := by decide +kernel
theorem dX12_changes_90 : decode cX12_changes 90 = .ok (.istore 7, 2) := by decide +kernel
theorem dX12_changes_92 : decode cX12_changes 92 = .ok (.return_, 1) := by decide +kernel
theorem dX12_begin_0 : decode cX12_begin 0 = .ok (.aload_n 0, 1) := by decide +kernel
theorem dX12_begin_1 : decode cX12_begin 1 = .ok (.iconst 0, 1) := by decide +kernel
theorem dX12_begin_2 : decode cX12_begin 2 = .ok (.putfield 1, 3) := by decide +kernel
theorem dX12_begin_5 : decode cX12_begin 5 = .ok (.iload_n 1, 1) := by decide +kernel
theorem dX12_begin_6 : decode cX12_begin 6 = .ok (.invokestatic 145, 3) := by decide +kernel
theorem dX12_begin_9 : decode cX12_begin 9 = .ok (.ifCond .ne 6, 3) := by decide +kernel
theorem dX12_begin_12 : decode cX12_begin 12 = .ok (.bipush (-2), 2) := by decide +kernel
theorem dX12_begin_14 : decode cX12_begin 14 = .ok (.ireturn, 1) := by decide +kernel
theorem dX12_begin_15 : decode cX12_begin 15 = .ok (.aload_n 0, 1) := by decide +kernel
theorem dX12_begin_16 : decode cX12_begin 16 = .ok (.iload_n 1, 1) := by decide +kernel
theorem dX12_begin_17 : decode cX12_begin 17 = .ok (.invokevirtual 149, 3) := by decide +kernel
theorem dX12_begin_20 : decode cX12_begin 20 = .ok (.ifCond .eq 6, 3) := by decide +kernel
theorem dX12_begin_23 : decode cX12_begin 23 = .ok (.bipush (-5), 2) := by decide +kernel
theorem dX12_begin_25 : decode cX12_begin 25 = .ok (.ireturn, 1) := by decide +kernel
theorem dX12_begin_26 : decode cX12_begin 26 = .ok (.aload_n 0, 1) := by decide +kernel
theorem dX12_begin_27 : decode cX12_begin 27 = .ok (.invokevirtual 152, 3) := by decide +kernel
theorem dX12_begin_30 : decode cX12_begin 30 = .ok (.sipush 1968, 3) := by decide +kernel
theorem dX12_begin_33 : decode cX12_begin 33 = .ok (.bipush 43, 2) := by decide +kernel
theorem dX12_begin_35 : decode cX12_begin 35 = .ok (.iload_n 1, 1) := by decide +kernel
theorem dX12_begin_36 : decode cX12_begin 36 = .ok (.imul, 1) := by decide +kernel
theorem dX12_begin_37 : decode cX12_begin 37 = .ok (.iadd, 1) := by decide +kernel
theorem dX12_begin_38 : decode cX12_begin 38 = .ok (.istore_n 2, 1) := by decide +kernel
theorem dX12_begin_39 : decode cX12_begin 39 = .ok (.aload_n 0, 1) := by decide +kernel
theorem dX12_begin_40 : decode cX12_begin 40 = .ok (.getfield 13, 3) := by decide +kernel
theorem dX12_begin_43 : decode cX12_begin 43 = .ok (.iload_n 2, 1) := by decide +kernel
theorem dX12_begin_44 : decode cX12_begin 44 = .ok (.iconst 0, 1) := by decide +kernel
theorem dX12_begin_45 : decode cX12_begin 45 = .ok (.iadd, 1) := by decide +kernel
theorem dX12_begin_46 : decode cX12_begin 46 = .ok (.iconst 1, 1) := by decide +kernel
theorem dX12_begin_47 : decode cX12_begin 47 = .ok (.iastore, 1) := by decide +kernel
theorem dX12_begin_48 : decode cX12_begin 48 = .ok (.aload_n 0, 1) := by decide +kernel
theorem dX12_begin_49 : decode cX12_begin 49 = .ok (.getfield 13, 3) := by decide +kernel
theorem dX12_begin_52 : decode cX12_begin 52 = .ok (.iload_n 2, 1) := by decide +kernel
theorem dX12_begin_53 : decode cX12_begin 53 = .ok (.iconst 1, 1) := by decide +kernel
theorem dX12_begin_54 : decode cX12_begin 54 = .ok (.iadd, 1) := by decide +kernel
theorem dX12_begin_55 : decode cX12_begin 55 = .ok (.aload_n 0, 1) := by decide +kernel
theorem dX12_begin_56 : decode cX12_begin 56 = .ok (.getfield 13, 3) := by decide +kernel
theorem dX12_begin_59 : decode cX12_begin 59 = .ok (.sipush 5340, 3) := by decide +kernel
theorem dX12_begin_62 : decode cX12_begin 62 = .ok (.iaload, 1) := by decide +kernel
theorem dX12_begin_63 : decode cX12_begin 63 = .ok (.iastore, 1) := by decide +kernel
theorem dX12_begin_64 : decode cX12_begin 64 = .ok (.aload_n 0, 1) := by decide +kernel
theorem dX12_begin_65 : decode cX12_begin 65 = .ok (.getfield 13, 3) := by decide +kernel
theorem dX12_begin_68 : decode cX12_begin 68 = .ok (.iload_n 2, 1) := by decide +kernel
theorem dX12_begin_69 : decode cX12_begin 69 = .ok (.iconst 2, 1) := by decide +kernel
theorem dX12_begin_70 : decode cX12_begin 70 = .ok (.iadd, 1) := by decide +kernel
theorem dX12_begin_71 : decode cX12_begin 71 = .ok (.iconst 0, 1) := by decide +kernel
theorem dX12_begin_72 : decode cX12_begin 72 = .ok (.iastore, 1) := by decide +kernel
theorem dX12_begin_73 : decode cX12_begin 73 = .ok (.aload_n 0, 1) := by decide +kernel
theorem dX12_begin_74 : decode cX12_begin 74 = .ok (.getfield 13, 3) := by decide +kernel
theorem dX12_begin_77 : decode cX12_begin 77 = .ok (.sipush 5340, 3) := by decide +kernel
theorem dX12_begin_80 : decode cX12_begin 80 = .ok (.iaload, 1) := by decide +kernel
theorem dX12_begin_81 : decode cX12_begin 81 = .ok (.ireturn, 1) := by decide +kernel
theorem dX12_refuses_0 : decode cX12_refuses 0 = .ok (.aload_n 0, 1) := by decide +kernel
theorem dX12_refuses_1 : decode cX12_refuses 1 = .ok (.iload_n 1, 1) := by decide +kernel
theorem dX12_refuses_2 : decode cX12_refuses 2 = .ok (.invokevirtual 149, 3) := by decide +kernel
theorem dX12_refuses_5 : decode cX12_refuses 5 = .ok (.ifCond .ne 6, 3) := by decide +kernel
theorem dX12_refuses_8 : decode cX12_refuses 8 = .ok (.bipush (-5), 2) := by decide +kernel
theorem dX12_refuses_10 : decode cX12_refuses 10 = .ok (.ireturn, 1) := by decide +kernel
theorem dX12_refuses_11 : decode cX12_refuses 11 = .ok (.aload_n 0, 1) := by decide +kernel
theorem dX12_refuses_12 : decode cX12_refuses 12 = .ok (.iload_n 1, 1) := by decide +kernel
theorem dX12_refuses_13 : decode cX12_refuses 13 = .ok (.iload_n 2, 1) := by decide +kernel
theorem dX12_refuses_14 : decode cX12_refuses 14 = .ok (.invokevirtual 98, 3) := by decide +kernel
theorem dX12_refuses_17 : decode cX12_refuses 17 = .ok (.iconst (-1), 1) := by decide +kernel
theorem dX12_refuses_18 : decode cX12_refuses 18 = .ok (.if_icmp .ne 19, 3) := by decide +kernel
theorem dX12_refuses_21 : decode cX12_refuses 21 = .ok (.aload_n 0, 1) := by decide +kernel
theorem dX12_refuses_22 : decode cX12_refuses 22 = .ok (.iload_n 1, 1) := by decide +kernel
theorem dX12_refuses_23 : decode cX12_refuses 23 = .ok (.iconst 2, 1) := by decide +kernel
theorem dX12_refuses_24 : decode cX12_refuses 24 = .ok (.invokevirtual 94, 3) := by decide +kernel
theorem dX12_refuses_27 : decode cX12_refuses 27 = .ok (.bipush 8, 2) := by decide +kernel
theorem dX12_refuses_29 : decode cX12_refuses 29 = .ok (.if_icmp .ne 8, 3) := by decide +kernel
theorem dX12_refuses_32 : decode cX12_refuses 32 = .ok (.bipush (-4), 2) := by decide +kernel
theorem dX12_refuses_34 : decode cX12_refuses 34 = .ok (.goto 4, 3) := by decide +kernel
theorem dX12_refuses_37 : decode cX12_refuses 37 = .ok (.iconst 0, 1) := by decide +kernel
theorem dX12_refuses_38 : decode cX12_refuses 38 = .ok (.ireturn, 1) := by decide +kernel
theorem dX12_writes_0 : decode cX12_writes 0 = .ok (.aload_n 0, 1) := by decide +kernel
theorem dX12_writes_1 : decode cX12_writes 1 = .ok (.iload_n 1, 1) := by decide +kernel
theorem dX12_writes_2 : decode cX12_writes 2 = .ok (.iload_n 2, 1) := by decide +kernel
theorem dX12_writes_3 : decode cX12_writes 3 = .ok (.invokevirtual 98, 3) := by decide +kernel
theorem dX12_writes_6 : decode cX12_writes 6 = .ok (.istore 7, 2) := by decide +kernel
theorem dX12_writes_8 : decode cX12_writes 8 = .ok (.sipush 1968, 3) := by decide +kernel
theorem dX12_writes_11 : decode cX12_writes 11 = .ok (.bipush 43, 2) := by decide +kernel
theorem dX12_writes_13 : decode cX12_writes 13 = .ok (.iload_n 1, 1) := by decide +kernel
theorem dX12_writes_14 : decode cX12_writes 14 = .ok (.imul, 1) := by decide +kernel
theorem dX12_writes_15 : decode cX12_writes 15 = .ok (.iadd, 1) := by decide +kernel
theorem dX12_writes_16 : decode cX12_writes 16 = .ok (.istore 8, 2) := by decide +kernel
theorem dX12_writes_18 : decode cX12_writes 18 = .ok (.iload 7, 2) := by decide +kernel
theorem dX12_writes_20 : decode cX12_writes 20 = .ok (.iconst (-1), 1) := by decide +kernel
theorem dX12_writes_21 : decode cX12_writes 21 = .ok (.if_icmp .ne 34, 3) := by decide +kernel
theorem dX12_writes_24 : decode cX12_writes 24 = .ok (.iload 8, 2) := by decide +kernel
theorem dX12_writes_26 : decode cX12_writes 26 = .ok (.iconst 3, 1) := by decide +kernel
theorem dX12_writes_27 : decode cX12_writes 27 = .ok (.iadd, 1) := by decide +kernel
theorem dX12_writes_28 : decode cX12_writes 28 = .ok (.iconst 5, 1) := by decide +kernel
theorem dX12_writes_29 : decode cX12_writes 29 = .ok (.aload_n 0, 1) := by decide +kernel
theorem dX12_writes_30 : decode cX12_writes 30 = .ok (.getfield 13, 3) := by decide +kernel
theorem dX12_writes_33 : decode cX12_writes 33 = .ok (.iload 8, 2) := by decide +kernel
theorem dX12_writes_35 : decode cX12_writes 35 = .ok (.iconst 2, 1) := by decide +kernel
theorem dX12_writes_36 : decode cX12_writes 36 = .ok (.iadd, 1) := by decide +kernel
theorem dX12_writes_37 : decode cX12_writes 37 = .ok (.iaload, 1) := by decide +kernel
theorem dX12_writes_38 : decode cX12_writes 38 = .ok (.imul, 1) := by decide +kernel
theorem dX12_writes_39 : decode cX12_writes 39 = .ok (.iadd, 1) := by decide +kernel
theorem dX12_writes_40 : decode cX12_writes 40 = .ok (.istore 7, 2) := by decide +kernel
theorem dX12_writes_42 : decode cX12_writes 42 = .ok (.aload_n 0, 1) := by decide +kernel
theorem dX12_writes_43 : decode cX12_writes 43 = .ok (.getfield 13, 3) := by decide +kernel
theorem dX12_writes_46 : decode cX12_writes 46 = .ok (.iload 8, 2) := by decide +kernel
theorem dX12_writes_48 : decode cX12_writes 48 = .ok (.iconst 2, 1) := by decide +kernel
theorem dX12_writes_49 : decode cX12_writes 49 = .ok (.iadd, 1) := by decide +kernel
theorem dX12_writes_50 : decode cX12_writes 50 = .ok (.dup2, 1) := by decide +kernel
theorem dX12_writes_51 : decode cX12_writes 51 = .ok (.iaload, 1) := by decide +kernel
theorem dX12_writes_52 : decode cX12_writes 52 = .ok (.iconst 1, 1) := by decide +kernel
theorem dX12_writes_53 : decode cX12_writes 53 = .ok (.iadd, 1) := by decide +kernel
theorem dX12_writes_54 : decode cX12_writes 54 = .ok (.iastore, 1) := by decide +kernel
theorem dX12_writes_55 : decode cX12_writes 55 = .ok (.aload_n 0, 1) := by decide +kernel
theorem dX12_writes_56 : decode cX12_writes 56 = .ok (.getfield 13, 3) := by decide +kernel
theorem dX12_writes_59 : decode cX12_writes 59 = .ok (.iload 7, 2) := by decide +kernel
theorem dX12_writes_61 : decode cX12_writes 61 = .ok (.iload_n 2, 1) := by decide +kernel
theorem dX12_writes_62 : decode cX12_writes 62 = .ok (.iastore, 1) := by decide +kernel
theorem dX12_writes_63 : decode cX12_writes 63 = .ok (.aload_n 0, 1) := by decide +kernel
theorem dX12_writes_64 : decode cX12_writes 64 = .ok (.getfield 13, 3) := by decide +kernel
theorem dX12_writes_67 : decode cX12_writes 67 = .ok (.iload 7, 2) := by decide +kernel
theorem dX12_writes_69 : decode cX12_writes 69 = .ok (.iconst 1, 1) := by decide +kernel
theorem dX12_writes_70 : decode cX12_writes 70 = .ok (.iadd, 1) := by decide +kernel
theorem dX12_writes_71 : decode cX12_writes 71 = .ok (.iload_n 3, 1) := by decide +kernel
theorem dX12_writes_72 : decode cX12_writes 72 = .ok (.iastore, 1) := by decide +kernel
theorem dX12_writes_73 : decode cX12_writes 73 = .ok (.aload_n 0, 1) := by decide +kernel
theorem dX12_writes_74 : decode cX12_writes 74 = .ok (.getfield 13, 3) := by decide +kernel
theorem dX12_writes_77 : decode cX12_writes 77 = .ok (.iload 7, 2) := by decide +kernel
theorem dX12_writes_79 : decode cX12_writes 79 = .ok (.iconst 2, 1) := by decide +kernel
theorem dX12_writes_80 : decode cX12_writes 80 = .ok (.iadd, 1) := by decide +kernel
theorem dX12_writes_81 : decode cX12_writes 81 = .ok (.iload 4, 2) := by decide +kernel
theorem dX12_writes_83 : decode cX12_writes 83 = .ok (.iastore, 1) := by decide +kernel
theorem dX12_writes_84 : decode cX12_writes 84 = .ok (.aload_n 0, 1) := by decide +kernel
theorem dX12_writes_85 : decode cX12_writes 85 = .ok (.getfield 13, 3) := by decide +kernel
theorem dX12_writes_88 : decode cX12_writes 88 = .ok (.iload 7, 2) := by decide +kernel
theorem dX12_writes_90 : decode cX12_writes 90 = .ok (.iconst 3, 1) := by decide +kernel
theorem dX12_writes_91 : decode cX12_writes 91 = .ok (.iadd, 1) := by decide +kernel
theorem dX12_writes_92 : decode cX12_writes 92 = .ok (.iload 5, 2) := by decide +kernel
theorem dX12_writes_94 : decode cX12_writes 94 = .ok (.iastore, 1) := by decide +kernel
theorem dX12_writes_95 : decode cX12_writes 95 = .ok (.aload_n 0, 1) := by decide +kernel
theorem dX12_writes_96 : decode cX12_writes 96 = .ok (.getfield 13, 3) := by decide +kernel
theorem dX12_writes_99 : decode cX12_writes 99 = .ok (.iload 7, 2) := by decide +kernel
theorem dX12_writes_101 : decode cX12_writes 101 = .ok (.iconst 4, 1) := by decide +kernel
theorem dX12_writes_102 : decode cX12_writes 102 = .ok (.iadd, 1) := by decide +kernel
theorem dX12_writes_103 : decode cX12_writes 103 = .ok (.iload 6, 2) := by decide +kernel
theorem dX12_writes_105 : decode cX12_writes 105 = .ok (.iastore, 1) := by decide +kernel
theorem dX12_writes_106 : decode cX12_writes 106 = .ok (.return_, 1) := by decide +kernel
theorem dX12_put_0 : decode cX12_put 0 = .ok (.aload_n 0, 1) := by decide +kernel
theorem dX12_put_1 : decode cX12_put 1 = .ok (.iconst 0, 1) := by decide +kernel
theorem dX12_put_2 : decode cX12_put 2 = .ok (.putfield 1, 3) := by decide +kernel
theorem dX12_put_5 : decode cX12_put 5 = .ok (.iload_n 1, 1) := by decide +kernel
theorem dX12_put_6 : decode cX12_put 6 = .ok (.invokestatic 145, 3) := by decide +kernel
theorem dX12_put_9 : decode cX12_put 9 = .ok (.ifCond .eq 10, 3) := by decide +kernel
theorem dX12_put_12 : decode cX12_put 12 = .ok (.iload_n 2, 1) := by decide +kernel
theorem dX12_put_13 : decode cX12_put 13 = .ok (.invokestatic 155, 3) := by decide +kernel
theorem dX12_put_16 : decode cX12_put 16 = .ok (.ifCond .ne 6, 3) := by decide +kernel
theorem dX12_put_19 : decode cX12_put 19 = .ok (.bipush (-2), 2) := by decide +kernel
theorem dX12_put_21 : decode cX12_put 21 = .ok (.ireturn, 1) := by decide +kernel
theorem dX12_put_22 : decode cX12_put 22 = .ok (.iload_n 3, 1) := by decide +kernel
theorem dX12_put_23 : decode cX12_put 23 = .ok (.invokestatic 158, 3) := by decide +kernel
theorem dX12_put_26 : decode cX12_put 26 = .ok (.ifCond .eq 19, 3) := by decide +kernel
theorem dX12_put_29 : decode cX12_put 29 = .ok (.iload 4, 2) := by decide +kernel
theorem dX12_put_31 : decode cX12_put 31 = .ok (.invokestatic 158, 3) := by decide +kernel
theorem dX12_put_34 : decode cX12_put 34 = .ok (.ifCond .eq 11, 3) := by decide +kernel
theorem dX12_put_37 : decode cX12_put 37 = .ok (.iload 5, 2) := by decide +kernel
theorem dX12_put_39 : decode cX12_put 39 = .ok (.invokestatic 158, 3) := by decide +kernel
theorem dX12_put_42 : decode cX12_put 42 = .ok (.ifCond .ne 6, 3) := by decide +kernel
theorem dX12_put_45 : decode cX12_put 45 = .ok (.bipush (-3), 2) := by decide +kernel
theorem dX12_put_47 : decode cX12_put 47 = .ok (.ireturn, 1) := by decide +kernel
theorem dX12_put_48 : decode cX12_put 48 = .ok (.aload_n 0, 1) := by decide +kernel
theorem dX12_put_49 : decode cX12_put 49 = .ok (.iload_n 1, 1) := by decide +kernel
theorem dX12_put_50 : decode cX12_put 50 = .ok (.iload_n 2, 1) := by decide +kernel
theorem dX12_put_51 : decode cX12_put 51 = .ok (.invokevirtual 161, 3) := by decide +kernel
theorem dX12_put_54 : decode cX12_put 54 = .ok (.istore 6, 2) := by decide +kernel
theorem dX12_put_56 : decode cX12_put 56 = .ok (.iload 6, 2) := by decide +kernel
theorem dX12_put_58 : decode cX12_put 58 = .ok (.ifCond .eq 6, 3) := by decide +kernel
theorem dX12_put_61 : decode cX12_put 61 = .ok (.iload 6, 2) := by decide +kernel
theorem dX12_put_63 : decode cX12_put 63 = .ok (.ireturn, 1) := by decide +kernel
theorem dX12_put_64 : decode cX12_put 64 = .ok (.aload_n 0, 1) := by decide +kernel
theorem dX12_put_65 : decode cX12_put 65 = .ok (.invokevirtual 152, 3) := by decide +kernel
theorem dX12_put_68 : decode cX12_put 68 = .ok (.aload_n 0, 1) := by decide +kernel
theorem dX12_put_69 : decode cX12_put 69 = .ok (.iload_n 1, 1) := by decide +kernel
theorem dX12_put_70 : decode cX12_put 70 = .ok (.iload_n 2, 1) := by decide +kernel
theorem dX12_put_71 : decode cX12_put 71 = .ok (.iconst 1, 1) := by decide +kernel
theorem dX12_put_72 : decode cX12_put 72 = .ok (.iload_n 3, 1) := by decide +kernel
theorem dX12_put_73 : decode cX12_put 73 = .ok (.iload 4, 2) := by decide +kernel
theorem dX12_put_75 : decode cX12_put 75 = .ok (.iload 5, 2) := by decide +kernel
theorem dX12_put_77 : decode cX12_put 77 = .ok (.invokevirtual 164, 3) := by decide +kernel
theorem dX12_put_80 : decode cX12_put 80 = .ok (.aload_n 0, 1) := by decide +kernel
theorem dX12_put_81 : decode cX12_put 81 = .ok (.iload_n 1, 1) := by decide +kernel
theorem dX12_put_82 : decode cX12_put 82 = .ok (.iconst 2, 1) := by decide +kernel
theorem dX12_put_83 : decode cX12_put 83 = .ok (.invokevirtual 94, 3) := by decide +kernel
theorem dX12_put_86 : decode cX12_put 86 = .ok (.ireturn, 1) := by decide +kernel
theorem dX12_erase_0 : decode cX12_erase 0 = .ok (.aload_n 0, 1) := by decide +kernel
theorem dX12_erase_1 : decode cX12_erase 1 = .ok (.iconst 0, 1) := by decide +kernel
theorem dX12_erase_2 : decode cX12_erase 2 = .ok (.putfield 1, 3) := by decide +kernel
theorem dX12_erase_5 : decode cX12_erase 5 = .ok (.iload_n 1, 1) := by decide +kernel
theorem dX12_erase_6 : decode cX12_erase 6 = .ok (.invokestatic 145, 3) := by decide +kernel
theorem dX12_erase_9 : decode cX12_erase 9 = .ok (.ifCond .eq 10, 3) := by decide +kernel
theorem dX12_erase_12 : decode cX12_erase 12 = .ok (.iload_n 2, 1) := by decide +kernel
theorem dX12_erase_13 : decode cX12_erase 13 = .ok (.invokestatic 155, 3) := by decide +kernel
theorem dX12_erase_16 : decode cX12_erase 16 = .ok (.ifCond .ne 6, 3) := by decide +kernel
theorem dX12_erase_19 : decode cX12_erase 19 = .ok (.bipush (-2), 2) := by decide +kernel
theorem dX12_erase_21 : decode cX12_erase 21 = .ok (.ireturn, 1) := by decide +kernel
theorem dX12_erase_22 : decode cX12_erase 22 = .ok (.aload_n 0, 1) := by decide +kernel
theorem dX12_erase_23 : decode cX12_erase 23 = .ok (.iload_n 1, 1) := by decide +kernel
theorem dX12_erase_24 : decode cX12_erase 24 = .ok (.iload_n 2, 1) := by decide +kernel
theorem dX12_erase_25 : decode cX12_erase 25 = .ok (.invokevirtual 161, 3) := by decide +kernel
theorem dX12_erase_28 : decode cX12_erase 28 = .ok (.istore_n 3, 1) := by decide +kernel
theorem dX12_erase_29 : decode cX12_erase 29 = .ok (.iload_n 3, 1) := by decide +kernel
theorem dX12_erase_30 : decode cX12_erase 30 = .ok (.ifCond .eq 5, 3) := by decide +kernel
theorem dX12_erase_33 : decode cX12_erase 33 = .ok (.iload_n 3, 1) := by decide +kernel
theorem dX12_erase_34 : decode cX12_erase 34 = .ok (.ireturn, 1) := by decide +kernel
theorem dX12_erase_35 : decode cX12_erase 35 = .ok (.aload_n 0, 1) := by decide +kernel
theorem dX12_erase_36 : decode cX12_erase 36 = .ok (.invokevirtual 152, 3) := by decide +kernel
theorem dX12_erase_39 : decode cX12_erase 39 = .ok (.aload_n 0, 1) := by decide +kernel
theorem dX12_erase_40 : decode cX12_erase 40 = .ok (.getfield 13, 3) := by decide +kernel
theorem dX12_erase_43 : decode cX12_erase 43 = .ok (.aload_n 0, 1) := by decide +kernel
theorem dX12_erase_44 : decode cX12_erase 44 = .ok (.iload_n 1, 1) := by decide +kernel
theorem dX12_erase_45 : decode cX12_erase 45 = .ok (.iload_n 2, 1) := by decide +kernel
theorem dX12_erase_46 : decode cX12_erase 46 = .ok (.invokevirtual 168, 3) := by decide +kernel
theorem dX12_erase_49 : decode cX12_erase 49 = .ok (.iconst 1, 1) := by decide +kernel
theorem dX12_erase_50 : decode cX12_erase 50 = .ok (.iadd, 1) := by decide +kernel
theorem dX12_erase_51 : decode cX12_erase 51 = .ok (.iaload, 1) := by decide +kernel
theorem dX12_erase_52 : decode cX12_erase 52 = .ok (.istore 4, 2) := by decide +kernel
theorem dX12_erase_54 : decode cX12_erase 54 = .ok (.aload_n 0, 1) := by decide +kernel
theorem dX12_erase_55 : decode cX12_erase 55 = .ok (.iload_n 1, 1) := by decide +kernel
theorem dX12_erase_56 : decode cX12_erase 56 = .ok (.iload_n 2, 1) := by decide +kernel
theorem dX12_erase_57 : decode cX12_erase 57 = .ok (.iconst 0, 1) := by decide +kernel
theorem dX12_erase_58 : decode cX12_erase 58 = .ok (.iconst 0, 1) := by decide +kernel
theorem dX12_erase_59 : decode cX12_erase 59 = .ok (.iconst 0, 1) := by decide +kernel
theorem dX12_erase_60 : decode cX12_erase 60 = .ok (.iconst 0, 1) := by decide +kernel
theorem dX12_erase_61 : decode cX12_erase 61 = .ok (.invokevirtual 164, 3) := by decide +kernel
theorem dX12_erase_64 : decode cX12_erase 64 = .ok (.iload 4, 2) := by decide +kernel
theorem dX12_erase_66 : decode cX12_erase 66 = .ok (.ireturn, 1) := by decide +kernel
theorem dX12_doWait_0 : decode cX12_doWait 0 = .ok (.iconst 0, 1) := by decide +kernel
theorem dX12_doWait_1 : decode cX12_doWait 1 = .ok (.istore_n 1, 1) := by decide +kernel
theorem dX12_doWait_2 : decode cX12_doWait 2 = .ok (.iload_n 1, 1) := by decide +kernel
theorem dX12_doWait_3 : decode cX12_doWait 3 = .ok (.iconst 2, 1) := by decide +kernel
theorem dX12_doWait_4 : decode cX12_doWait 4 = .ok (.if_icmp .ge 21, 3) := by decide +kernel
theorem dX12_doWait_7 : decode cX12_doWait 7 = .ok (.aload_n 0, 1) := by decide +kernel
theorem dX12_doWait_8 : decode cX12_doWait 8 = .ok (.iload_n 1, 1) := by decide +kernel
theorem dX12_doWait_9 : decode cX12_doWait 9 = .ok (.iconst 0, 1) := by decide +kernel
theorem dX12_doWait_10 : decode cX12_doWait 10 = .ok (.invokevirtual 104, 3) := by decide +kernel
theorem dX12_doWait_13 : decode cX12_doWait 13 = .ok (.iconst 3, 1) := by decide +kernel
theorem dX12_doWait_14 : decode cX12_doWait 14 = .ok (.if_icmp .ne 5, 3) := by decide +kernel
theorem dX12_doWait_17 : decode cX12_doWait 17 = .ok (.iconst 1, 1) := by decide +kernel
theorem dX12_doWait_18 : decode cX12_doWait 18 = .ok (.ireturn, 1) := by decide +kernel
theorem dX12_doWait_19 : decode cX12_doWait 19 = .ok (.iinc 1 1, 3) := by decide +kernel
theorem dX12_doWait_22 : decode cX12_doWait 22 = .ok (.goto (-20), 3) := by decide +kernel
theorem dX12_doWait_25 : decode cX12_doWait 25 = .ok (.iconst 0, 1) := by decide +kernel
theorem dX12_doWait_26 : decode cX12_doWait 26 = .ok (.ireturn, 1) := by decide +kernel
theorem dX12_isConflict_0 : decode cX12_isConflict 0 = .ok (.iconst 0, 1) := by decide +kernel
theorem dX12_isConflict_1 : decode cX12_isConflict 1 = .ok (.istore_n 2, 1) := by decide +kernel
theorem dX12_isConflict_2 : decode cX12_isConflict 2 = .ok (.iload_n 2, 1) := by decide +kernel
theorem dX12_isConflict_3 : decode cX12_isConflict 3 = .ok (.bipush 48, 2) := by decide +kernel
theorem dX12_isConflict_5 : decode cX12_isConflict 5 = .ok (.if_icmp .ge 40, 3) := by decide +kernel
theorem dX12_isConflict_8 : decode cX12_isConflict 8 = .ok (.aload_n 0, 1) := by decide +kernel
theorem dX12_isConflict_9 : decode cX12_isConflict 9 = .ok (.iload_n 1, 1) := by decide +kernel
theorem dX12_isConflict_10 : decode cX12_isConflict 10 = .ok (.iload_n 2, 1) := by decide +kernel
theorem dX12_isConflict_11 : decode cX12_isConflict 11 = .ok (.invokevirtual 98, 3) := by decide +kernel
theorem dX12_isConflict_14 : decode cX12_isConflict 14 = .ok (.iconst (-1), 1) := by decide +kernel
theorem dX12_isConflict_15 : decode cX12_isConflict 15 = .ok (.if_icmp .eq 24, 3) := by decide +kernel
theorem dX12_isConflict_18 : decode cX12_isConflict 18 = .ok (.aload_n 0, 1) := by decide +kernel
theorem dX12_isConflict_19 : decode cX12_isConflict 19 = .ok (.getfield 13, 3) := by decide +kernel
theorem dX12_isConflict_22 : decode cX12_isConflict 22 = .ok (.aload_n 0, 1) := by decide +kernel
theorem dX12_isConflict_23 : decode cX12_isConflict 23 = .ok (.iload_n 2, 1) := by decide +kernel
theorem dX12_isConflict_24 : decode cX12_isConflict 24 = .ok (.invokevirtual 171, 3) := by decide +kernel
theorem dX12_isConflict_27 : decode cX12_isConflict 27 = .ok (.iaload, 1) := by decide +kernel
theorem dX12_isConflict_28 : decode cX12_isConflict 28 = .ok (.aload_n 0, 1) := by decide +kernel
theorem dX12_isConflict_29 : decode cX12_isConflict 29 = .ok (.iload_n 1, 1) := by decide +kernel
theorem dX12_isConflict_30 : decode cX12_isConflict 30 = .ok (.iconst 1, 1) := by decide +kernel
theorem dX12_isConflict_31 : decode cX12_isConflict 31 = .ok (.invokevirtual 94, 3) := by decide +kernel
theorem dX12_isConflict_34 : decode cX12_isConflict 34 = .ok (.if_icmp .le 5, 3) := by decide +kernel
theorem dX12_isConflict_37 : decode cX12_isConflict 37 = .ok (.iconst 1, 1) := by decide +kernel
theorem dX12_isConflict_38 : decode cX12_isConflict 38 = .ok (.ireturn, 1) := by decide +kernel
theorem dX12_isConflict_39 : decode cX12_isConflict 39 = .ok (.iinc 2 1, 3) := by decide +kernel
theorem dX12_isConflict_42 : decode cX12_isConflict 42 = .ok (.goto (-40), 3) := by decide +kernel
theorem dX12_isConflict_45 : decode cX12_isConflict 45 = .ok (.iconst 0, 1) := by decide +kernel
theorem dX12_isConflict_46 : decode cX12_isConflict 46 = .ok (.ireturn, 1) := by decide +kernel
theorem dX12_wouldAt_0 : decode cX12_wouldAt 0 = .ok (.aload_n 0, 1) := by decide +kernel
theorem dX12_wouldAt_1 : decode cX12_wouldAt 1 = .ok (.iload_n 1, 1) := by decide +kernel
theorem dX12_wouldAt_2 : decode cX12_wouldAt 2 = .ok (.iload_n 2, 1) := by decide +kernel
theorem dX12_wouldAt_3 : decode cX12_wouldAt 3 = .ok (.invokevirtual 98, 3) := by decide +kernel
theorem dX12_wouldAt_6 : decode cX12_wouldAt 6 = .ok (.istore_n 3, 1) := by decide +kernel
theorem dX12_wouldAt_7 : decode cX12_wouldAt 7 = .ok (.iload_n 3, 1) := by decide +kernel
theorem dX12_wouldAt_8 : decode cX12_wouldAt 8 = .ok (.iconst (-1), 1) := by decide +kernel
theorem dX12_wouldAt_9 : decode cX12_wouldAt 9 = .ok (.if_icmp .eq 7, 3) := by decide +kernel
theorem dX12_wouldAt_12 : decode cX12_wouldAt 12 = .ok (.iload_n 3, 1) := by decide +kernel
theorem dX12_wouldAt_13 : decode cX12_wouldAt 13 = .ok (.goto 8, 3) := by decide +kernel
theorem dX12_wouldAt_16 : decode cX12_wouldAt 16 = .ok (.aload_n 0, 1) := by decide +kernel
theorem dX12_wouldAt_17 : decode cX12_wouldAt 17 = .ok (.iload_n 2, 1) := by decide +kernel
theorem dX12_wouldAt_18 : decode cX12_wouldAt 18 = .ok (.invokevirtual 171, 3) := by decide +kernel
theorem dX12_wouldAt_21 : decode cX12_wouldAt 21 = .ok (.ireturn, 1) := by decide +kernel
theorem dX12_wouldBeAlike_0 : decode cX12_wouldBeAlike 0 = .ok (.aload_n 0, 1) := by decide +kernel
theorem dX12_wouldBeAlike_1 : decode cX12_wouldBeAlike 1 = .ok (.iload_n 2, 1) := by decide +kernel
theorem dX12_wouldBeAlike_2 : decode cX12_wouldBeAlike 2 = .ok (.iconst 0, 1) := by decide +kernel
theorem dX12_wouldBeAlike_3 : decode cX12_wouldBeAlike 3 = .ok (.invokevirtual 104, 3) := by decide +kernel
theorem dX12_wouldBeAlike_6 : decode cX12_wouldBeAlike 6 = .ok (.iconst 4, 1) := by decide +kernel
theorem dX12_wouldBeAlike_7 : decode cX12_wouldBeAlike 7 = .ok (.if_icmp .ne 12, 3) := by decide +kernel
theorem dX12_wouldBeAlike_10 : decode cX12_wouldBeAlike 10 = .ok (.aload_n 0, 1) := by decide +kernel
theorem dX12_wouldBeAlike_11 : decode cX12_wouldBeAlike 11 = .ok (.iload_n 2, 1) := by decide +kernel
theorem dX12_wouldBeAlike_12 : decode cX12_wouldBeAlike 12 = .ok (.iconst 4, 1) := by decide +kernel
theorem dX12_wouldBeAlike_13 : decode cX12_wouldBeAlike 13 = .ok (.invokevirtual 104, 3) := by decide +kernel
theorem dX12_wouldBeAlike_16 : decode cX12_wouldBeAlike 16 = .ok (.ifCond .ne 5, 3) := by decide +kernel
theorem dX12_wouldBeAlike_19 : decode cX12_wouldBeAlike 19 = .ok (.iconst 0, 1) := by decide +kernel
theorem dX12_wouldBeAlike_20 : decode cX12_wouldBeAlike 20 = .ok (.ireturn, 1) := by decide +kernel
theorem dX12_wouldBeAlike_21 : decode cX12_wouldBeAlike 21 = .ok (.iconst 0, 1) := by decide +kernel
theorem dX12_wouldBeAlike_22 : decode cX12_wouldBeAlike 22 = .ok (.istore_n 3, 1) := by decide +kernel
theorem dX12_wouldBeAlike_23 : decode cX12_wouldBeAlike 23 = .ok (.iload_n 3, 1) := by decide +kernel
theorem dX12_wouldBeAlike_24 : decode cX12_wouldBeAlike 24 = .ok (.bipush 48, 2) := by decide +kernel
theorem dX12_wouldBeAlike_26 : decode cX12_wouldBeAlike 26 = .ok (.if_icmp .ge 96, 3) := by decide +kernel
theorem dX12_wouldBeAlike_29 : decode cX12_wouldBeAlike 29 = .ok (.aload_n 0, 1) := by decide +kernel
theorem dX12_wouldBeAlike_30 : decode cX12_wouldBeAlike 30 = .ok (.iload_n 1, 1) := by decide +kernel
theorem dX12_wouldBeAlike_31 : decode cX12_wouldBeAlike 31 = .ok (.iload_n 3, 1) := by decide +kernel
theorem dX12_wouldBeAlike_32 : decode cX12_wouldBeAlike 32 = .ok (.invokevirtual 98, 3) := by decide +kernel
theorem dX12_wouldBeAlike_35 : decode cX12_wouldBeAlike 35 = .ok (.iconst (-1), 1) := by decide +kernel
theorem dX12_wouldBeAlike_36 : decode cX12_wouldBeAlike 36 = .ok (.if_icmp .eq 80, 3) := by decide +kernel
theorem dX12_wouldBeAlike_39 : decode cX12_wouldBeAlike 39 = .ok (.aload_n 0, 1) := by decide +kernel
theorem dX12_wouldBeAlike_40 : decode cX12_wouldBeAlike 40 = .ok (.iload_n 2, 1) := by decide +kernel
theorem dX12_wouldBeAlike_41 : decode cX12_wouldBeAlike 41 = .ok (.aload_n 0, 1) := by decide +kernel
theorem dX12_wouldBeAlike_42 : decode cX12_wouldBeAlike 42 = .ok (.iload_n 1, 1) := by decide +kernel
theorem dX12_wouldBeAlike_43 : decode cX12_wouldBeAlike 43 = .ok (.iload_n 3, 1) := by decide +kernel
theorem dX12_wouldBeAlike_44 : decode cX12_wouldBeAlike 44 = .ok (.invokevirtual 98, 3) := by decide +kernel
theorem dX12_wouldBeAlike_47 : decode cX12_wouldBeAlike 47 = .ok (.invokevirtual 136, 3) := by decide +kernel
theorem dX12_wouldBeAlike_50 : decode cX12_wouldBeAlike 50 = .ok (.ifCond .ne 6, 3) := by decide +kernel
theorem dX12_wouldBeAlike_53 : decode cX12_wouldBeAlike 53 = .ok (.goto 63, 3) := by decide +kernel
theorem dX12_wouldBeAlike_56 : decode cX12_wouldBeAlike 56 = .ok (.iconst 0, 1) := by decide +kernel
theorem dX12_wouldBeAlike_57 : decode cX12_wouldBeAlike 57 = .ok (.istore 4, 2) := by decide +kernel
theorem dX12_wouldBeAlike_59 : decode cX12_wouldBeAlike 59 = .ok (.iload 4, 2) := by decide +kernel
theorem dX12_wouldBeAlike_61 : decode cX12_wouldBeAlike 61 = .ok (.bipush 48, 2) := by decide +kernel
theorem dX12_wouldBeAlike_63 : decode cX12_wouldBeAlike 63 = .ok (.if_icmp .ge 53, 3) := by decide +kernel
theorem dX12_wouldBeAlike_66 : decode cX12_wouldBeAlike 66 = .ok (.iload 4, 2) := by decide +kernel
theorem dX12_wouldBeAlike_68 : decode cX12_wouldBeAlike 68 = .ok (.iload_n 3, 1) := by decide +kernel
theorem dX12_wouldBeAlike_69 : decode cX12_wouldBeAlike 69 = .ok (.if_icmp .eq 41, 3) := by decide +kernel
theorem dX12_wouldBeAlike_72 : decode cX12_wouldBeAlike 72 = .ok (.aload_n 0, 1) := by decide +kernel
theorem dX12_wouldBeAlike_73 : decode cX12_wouldBeAlike 73 = .ok (.iload_n 2, 1) := by decide +kernel
theorem dX12_wouldBeAlike_74 : decode cX12_wouldBeAlike 74 = .ok (.aload_n 0, 1) := by decide +kernel
theorem dX12_wouldBeAlike_75 : decode cX12_wouldBeAlike 75 = .ok (.iload_n 1, 1) := by decide +kernel
theorem dX12_wouldBeAlike_76 : decode cX12_wouldBeAlike 76 = .ok (.iload 4, 2) := by decide +kernel
theorem dX12_wouldBeAlike_78 : decode cX12_wouldBeAlike 78 = .ok (.invokevirtual 175, 3) := by decide +kernel
theorem dX12_wouldBeAlike_81 : decode cX12_wouldBeAlike 81 = .ok (.invokevirtual 136, 3) := by decide +kernel
theorem dX12_wouldBeAlike_84 : decode cX12_wouldBeAlike 84 = .ok (.ifCond .eq 26, 3) := by decide +kernel
theorem dX12_wouldBeAlike_87 : decode cX12_wouldBeAlike 87 = .ok (.aload_n 0, 1) := by decide +kernel
theorem dX12_wouldBeAlike_88 : decode cX12_wouldBeAlike 88 = .ok (.iload_n 2, 1) := by decide +kernel
theorem dX12_wouldBeAlike_89 : decode cX12_wouldBeAlike 89 = .ok (.aload_n 0, 1) := by decide +kernel
theorem dX12_wouldBeAlike_90 : decode cX12_wouldBeAlike 90 = .ok (.iload_n 1, 1) := by decide +kernel
theorem dX12_wouldBeAlike_91 : decode cX12_wouldBeAlike 91 = .ok (.iload_n 3, 1) := by decide +kernel
theorem dX12_wouldBeAlike_92 : decode cX12_wouldBeAlike 92 = .ok (.invokevirtual 98, 3) := by decide +kernel
theorem dX12_wouldBeAlike_95 : decode cX12_wouldBeAlike 95 = .ok (.aload_n 0, 1) := by decide +kernel
theorem dX12_wouldBeAlike_96 : decode cX12_wouldBeAlike 96 = .ok (.iload_n 1, 1) := by decide +kernel
theorem dX12_wouldBeAlike_97 : decode cX12_wouldBeAlike 97 = .ok (.iload 4, 2) := by decide +kernel
theorem dX12_wouldBeAlike_99 : decode cX12_wouldBeAlike 99 = .ok (.invokevirtual 175, 3) := by decide +kernel
theorem dX12_wouldBeAlike_102 : decode cX12_wouldBeAlike 102 = .ok (.invokevirtual 139, 3) := by decide +kernel
theorem dX12_wouldBeAlike_105 : decode cX12_wouldBeAlike 105 = .ok (.ifCond .eq 5, 3) := by decide +kernel
theorem dX12_wouldBeAlike_108 : decode cX12_wouldBeAlike 108 = .ok (.iconst 1, 1) := by decide +kernel
theorem dX12_wouldBeAlike_109 : decode cX12_wouldBeAlike 109 = .ok (.ireturn, 1) := by decide +kernel
theorem dX12_wouldBeAlike_110 : decode cX12_wouldBeAlike 110 = .ok (.iinc 4 1, 3) := by decide +kernel
theorem dX12_wouldBeAlike_113 : decode cX12_wouldBeAlike 113 = .ok (.goto (-54), 3) := by decide +kernel
theorem dX12_wouldBeAlike_116 : decode cX12_wouldBeAlike 116 = .ok (.iinc 3 1, 3) := by decide +kernel
theorem dX12_wouldBeAlike_119 : decode cX12_wouldBeAlike 119 = .ok (.goto (-96), 3) := by decide +kernel
theorem dX12_wouldBeAlike_122 : decode cX12_wouldBeAlike 122 = .ok (.iconst 0, 1) := by decide +kernel
theorem dX12_wouldBeAlike_123 : decode cX12_wouldBeAlike 123 = .ok (.ireturn, 1) := by decide +kernel
theorem dX12_isFull_0 : decode cX12_isFull 0 = .ok (.iconst 0, 1) := by decide +kernel
theorem dX12_isFull_1 : decode cX12_isFull 1 = .ok (.istore_n 2, 1) := by decide +kernel
theorem dX12_isFull_2 : decode cX12_isFull 2 = .ok (.iload_n 2, 1) := by decide +kernel
theorem dX12_isFull_3 : decode cX12_isFull 3 = .ok (.bipush 48, 2) := by decide +kernel
theorem dX12_isFull_5 : decode cX12_isFull 5 = .ok (.if_icmp .ge 36, 3) := by decide +kernel
theorem dX12_isFull_8 : decode cX12_isFull 8 = .ok (.aload_n 0, 1) := by decide +kernel
theorem dX12_isFull_9 : decode cX12_isFull 9 = .ok (.iload_n 1, 1) := by decide +kernel
theorem dX12_isFull_10 : decode cX12_isFull 10 = .ok (.iload_n 2, 1) := by decide +kernel
theorem dX12_isFull_11 : decode cX12_isFull 11 = .ok (.invokevirtual 98, 3) := by decide +kernel
theorem dX12_isFull_14 : decode cX12_isFull 14 = .ok (.iconst (-1), 1) := by decide +kernel
theorem dX12_isFull_15 : decode cX12_isFull 15 = .ok (.if_icmp .eq 20, 3) := by decide +kernel
theorem dX12_isFull_18 : decode cX12_isFull 18 = .ok (.aload_n 0, 1) := by decide +kernel
theorem dX12_isFull_19 : decode cX12_isFull 19 = .ok (.getfield 13, 3) := by decide +kernel
theorem dX12_isFull_22 : decode cX12_isFull 22 = .ok (.sipush 1920, 3) := by decide +kernel
theorem dX12_isFull_25 : decode cX12_isFull 25 = .ok (.iload_n 2, 1) := by decide +kernel
theorem dX12_isFull_26 : decode cX12_isFull 26 = .ok (.iadd, 1) := by decide +kernel
theorem dX12_isFull_27 : decode cX12_isFull 27 = .ok (.iaload, 1) := by decide +kernel
theorem dX12_isFull_28 : decode cX12_isFull 28 = .ok (.bipush 8, 2) := by decide +kernel
theorem dX12_isFull_30 : decode cX12_isFull 30 = .ok (.if_icmp .ne 5, 3) := by decide +kernel
theorem dX12_isFull_33 : decode cX12_isFull 33 = .ok (.iconst 1, 1) := by decide +kernel
theorem dX12_isFull_34 : decode cX12_isFull 34 = .ok (.ireturn, 1) := by decide +kernel
theorem dX12_isFull_35 : decode cX12_isFull 35 = .ok (.iinc 2 1, 3) := by decide +kernel
theorem dX12_isFull_38 : decode cX12_isFull 38 = .ok (.goto (-36), 3) := by decide +kernel
theorem dX12_isFull_41 : decode cX12_isFull 41 = .ok (.iconst 0, 1) := by decide +kernel
theorem dX12_isFull_42 : decode cX12_isFull 42 = .ok (.ireturn, 1) := by decide +kernel
theorem dX12_ends_0 : decode cX12_ends 0 = .ok (.sipush 1968, 3) := by decide +kernel
theorem dX12_ends_3 : decode cX12_ends 3 = .ok (.bipush 43, 2) := by decide +kernel
theorem dX12_ends_5 : decode cX12_ends 5 = .ok (.iload_n 1, 1) := by decide +kernel
theorem dX12_ends_6 : decode cX12_ends 6 = .ok (.imul, 1) := by decide +kernel
theorem dX12_ends_7 : decode cX12_ends 7 = .ok (.iadd, 1) := by decide +kernel
theorem dX12_ends_8 : decode cX12_ends 8 = .ok (.istore_n 2, 1) := by decide +kernel
theorem dX12_ends_9 : decode cX12_ends 9 = .ok (.aload_n 0, 1) := by decide +kernel
theorem dX12_ends_10 : decode cX12_ends 10 = .ok (.getfield 13, 3) := by decide +kernel
theorem dX12_ends_13 : decode cX12_ends 13 = .ok (.iload_n 2, 1) := by decide +kernel
theorem dX12_ends_14 : decode cX12_ends 14 = .ok (.iconst 0, 1) := by decide +kernel
theorem dX12_ends_15 : decode cX12_ends 15 = .ok (.iadd, 1) := by decide +kernel
theorem dX12_ends_16 : decode cX12_ends 16 = .ok (.iconst 0, 1) := by decide +kernel
theorem dX12_ends_17 : decode cX12_ends 17 = .ok (.iastore, 1) := by decide +kernel
theorem dX12_ends_18 : decode cX12_ends 18 = .ok (.aload_n 0, 1) := by decide +kernel
theorem dX12_ends_19 : decode cX12_ends 19 = .ok (.getfield 13, 3) := by decide +kernel
theorem dX12_ends_22 : decode cX12_ends 22 = .ok (.iload_n 2, 1) := by decide +kernel
theorem dX12_ends_23 : decode cX12_ends 23 = .ok (.iconst 1, 1) := by decide +kernel
theorem dX12_ends_24 : decode cX12_ends 24 = .ok (.iadd, 1) := by decide +kernel
theorem dX12_ends_25 : decode cX12_ends 25 = .ok (.iconst 0, 1) := by decide +kernel
theorem dX12_ends_26 : decode cX12_ends 26 = .ok (.iastore, 1) := by decide +kernel
theorem dX12_ends_27 : decode cX12_ends 27 = .ok (.aload_n 0, 1) := by decide +kernel
theorem dX12_ends_28 : decode cX12_ends 28 = .ok (.getfield 13, 3) := by decide +kernel
theorem dX12_ends_31 : decode cX12_ends 31 = .ok (.iload_n 2, 1) := by decide +kernel
theorem dX12_ends_32 : decode cX12_ends 32 = .ok (.iconst 2, 1) := by decide +kernel
theorem dX12_ends_33 : decode cX12_ends 33 = .ok (.iadd, 1) := by decide +kernel
theorem dX12_ends_34 : decode cX12_ends 34 = .ok (.iconst 0, 1) := by decide +kernel
theorem dX12_ends_35 : decode cX12_ends 35 = .ok (.iastore, 1) := by decide +kernel
theorem dX12_ends_36 : decode cX12_ends 36 = .ok (.return_, 1) := by decide +kernel
theorem dX12_commit_0 : decode cX12_commit 0 = .ok (.aload_n 0, 1) := by decide +kernel
theorem dX12_commit_1 : decode cX12_commit 1 = .ok (.iconst 0, 1) := by decide +kernel
theorem dX12_commit_2 : decode cX12_commit 2 = .ok (.putfield 1, 3) := by decide +kernel
theorem dX12_commit_5 : decode cX12_commit 5 = .ok (.iload_n 1, 1) := by decide +kernel
theorem dX12_commit_6 : decode cX12_commit 6 = .ok (.invokestatic 145, 3) := by decide +kernel
theorem dX12_commit_9 : decode cX12_commit 9 = .ok (.ifCond .ne 6, 3) := by decide +kernel
theorem dX12_commit_12 : decode cX12_commit 12 = .ok (.bipush (-2), 2) := by decide +kernel
theorem dX12_commit_14 : decode cX12_commit 14 = .ok (.ireturn, 1) := by decide +kernel
theorem dX12_commit_15 : decode cX12_commit 15 = .ok (.aload_n 0, 1) := by decide +kernel
theorem dX12_commit_16 : decode cX12_commit 16 = .ok (.iload_n 1, 1) := by decide +kernel
theorem dX12_commit_17 : decode cX12_commit 17 = .ok (.invokevirtual 149, 3) := by decide +kernel
theorem dX12_commit_20 : decode cX12_commit 20 = .ok (.ifCond .ne 6, 3) := by decide +kernel
theorem dX12_commit_23 : decode cX12_commit 23 = .ok (.bipush (-5), 2) := by decide +kernel
theorem dX12_commit_25 : decode cX12_commit 25 = .ok (.ireturn, 1) := by decide +kernel
theorem dX12_commit_26 : decode cX12_commit 26 = .ok (.aload_n 0, 1) := by decide +kernel
theorem dX12_commit_27 : decode cX12_commit 27 = .ok (.invokevirtual 152, 3) := by decide +kernel
theorem dX12_commit_30 : decode cX12_commit 30 = .ok (.aload_n 0, 1) := by decide +kernel
theorem dX12_commit_31 : decode cX12_commit 31 = .ok (.iload_n 1, 1) := by decide +kernel
theorem dX12_commit_32 : decode cX12_commit 32 = .ok (.iconst 2, 1) := by decide +kernel
theorem dX12_commit_33 : decode cX12_commit 33 = .ok (.invokevirtual 94, 3) := by decide +kernel
theorem dX12_commit_36 : decode cX12_commit 36 = .ok (.ifCond .le 7, 3) := by decide +kernel
theorem dX12_commit_39 : decode cX12_commit 39 = .ok (.iconst 1, 1) := by decide +kernel
theorem dX12_commit_40 : decode cX12_commit 40 = .ok (.goto 4, 3) := by decide +kernel
theorem dX12_commit_43 : decode cX12_commit 43 = .ok (.iconst 0, 1) := by decide +kernel
theorem dX12_commit_44 : decode cX12_commit 44 = .ok (.istore_n 2, 1) := by decide +kernel
theorem dX12_commit_45 : decode cX12_commit 45 = .ok (.aload_n 0, 1) := by decide +kernel
theorem dX12_commit_46 : decode cX12_commit 46 = .ok (.iload_n 2, 1) := by decide +kernel
theorem dX12_commit_47 : decode cX12_commit 47 = .ok (.ifCond .ne 7, 3) := by decide +kernel
theorem dX12_commit_50 : decode cX12_commit 50 = .ok (.iconst 0, 1) := by decide +kernel
theorem dX12_commit_51 : decode cX12_commit 51 = .ok (.goto 61, 3) := by decide +kernel
theorem dX12_commit_54 : decode cX12_commit 54 = .ok (.aload_n 0, 1) := by decide +kernel
theorem dX12_commit_55 : decode cX12_commit 55 = .ok (.invokevirtual 178, 3) := by decide +kernel
theorem dX12_commit_58 : decode cX12_commit 58 = .ok (.ifCond .eq 7, 3) := by decide +kernel
theorem dX12_commit_61 : decode cX12_commit 61 = .ok (.iconst 2, 1) := by decide +kernel
theorem dX12_commit_62 : decode cX12_commit 62 = .ok (.goto 50, 3) := by decide +kernel
theorem dX12_commit_65 : decode cX12_commit 65 = .ok (.aload_n 0, 1) := by decide +kernel
theorem dX12_commit_66 : decode cX12_commit 66 = .ok (.iload_n 1, 1) := by decide +kernel
theorem dX12_commit_67 : decode cX12_commit 67 = .ok (.invokevirtual 182, 3) := by decide +kernel
theorem dX12_commit_70 : decode cX12_commit 70 = .ok (.ifCond .eq 7, 3) := by decide +kernel
theorem dX12_commit_73 : decode cX12_commit 73 = .ok (.iconst 1, 1) := by decide +kernel
theorem dX12_commit_74 : decode cX12_commit 74 = .ok (.goto 38, 3) := by decide +kernel
theorem dX12_commit_77 : decode cX12_commit 77 = .ok (.aload_n 0, 1) := by decide +kernel
theorem dX12_commit_78 : decode cX12_commit 78 = .ok (.iload_n 1, 1) := by decide +kernel
theorem dX12_commit_79 : decode cX12_commit 79 = .ok (.invokevirtual 185, 3) := by decide +kernel
theorem dX12_commit_82 : decode cX12_commit 82 = .ok (.ifCond .eq 7, 3) := by decide +kernel
theorem dX12_commit_85 : decode cX12_commit 85 = .ok (.iconst 4, 1) := by decide +kernel
theorem dX12_commit_86 : decode cX12_commit 86 = .ok (.goto 26, 3) := by decide +kernel
theorem dX12_commit_89 : decode cX12_commit 89 = .ok (.aload_n 0, 1) := by decide +kernel
theorem dX12_commit_90 : decode cX12_commit 90 = .ok (.iload_n 1, 1) := by decide +kernel
theorem dX12_commit_91 : decode cX12_commit 91 = .ok (.iconst 0, 1) := by decide +kernel
theorem dX12_commit_92 : decode cX12_commit 92 = .ok (.invokevirtual 188, 3) := by decide +kernel
theorem dX12_commit_95 : decode cX12_commit 95 = .ok (.ifCond .ne 12, 3) := by decide +kernel
theorem dX12_commit_98 : decode cX12_commit 98 = .ok (.aload_n 0, 1) := by decide +kernel
theorem dX12_commit_99 : decode cX12_commit 99 = .ok (.iload_n 1, 1) := by decide +kernel
theorem dX12_commit_100 : decode cX12_commit 100 = .ok (.iconst 1, 1) := by decide +kernel
theorem dX12_commit_101 : decode cX12_commit 101 = .ok (.invokevirtual 188, 3) := by decide +kernel
theorem dX12_commit_104 : decode cX12_commit 104 = .ok (.ifCond .eq 7, 3) := by decide +kernel
theorem dX12_commit_107 : decode cX12_commit 107 = .ok (.iconst 3, 1) := by decide +kernel
theorem dX12_commit_108 : decode cX12_commit 108 = .ok (.goto 4, 3) := by decide +kernel
theorem dX12_commit_111 : decode cX12_commit 111 = .ok (.iconst 0, 1) := by decide +kernel
theorem dX12_commit_112 : decode cX12_commit 112 = .ok (.putfield 191, 3) := by decide +kernel
theorem dX12_commit_115 : decode cX12_commit 115 = .ok (.aload_n 0, 1) := by decide +kernel
theorem dX12_commit_116 : decode cX12_commit 116 = .ok (.getfield 191, 3) := by decide +kernel
theorem dX12_commit_119 : decode cX12_commit 119 = .ok (.ifCond .ne 12, 3) := by decide +kernel
theorem dX12_commit_122 : decode cX12_commit 122 = .ok (.iload_n 2, 1) := by decide +kernel
theorem dX12_commit_123 : decode cX12_commit 123 = .ok (.ifCond .eq 8, 3) := by decide +kernel
theorem dX12_commit_126 : decode cX12_commit 126 = .ok (.aload_n 0, 1) := by decide +kernel
theorem dX12_commit_127 : decode cX12_commit 127 = .ok (.iload_n 1, 1) := by decide +kernel
theorem dX12_commit_128 : decode cX12_commit 128 = .ok (.invokevirtual 194, 3) := by decide +kernel
theorem dX12_commit_131 : decode cX12_commit 131 = .ok (.aload_n 0, 1) := by decide +kernel
theorem dX12_commit_132 : decode cX12_commit 132 = .ok (.getfield 191, 3) := by decide +kernel
theorem dX12_commit_135 : decode cX12_commit 135 = .ok (.iconst 2, 1) := by decide +kernel
theorem dX12_commit_136 : decode cX12_commit 136 = .ok (.irem, 1) := by decide +kernel
theorem dX12_commit_137 : decode cX12_commit 137 = .ok (.iconst 1, 1) := by decide +kernel
theorem dX12_commit_138 : decode cX12_commit 138 = .ok (.if_icmp .eq 10, 3) := by decide +kernel
theorem dX12_commit_141 : decode cX12_commit 141 = .ok (.aload_n 0, 1) := by decide +kernel
theorem dX12_commit_142 : decode cX12_commit 142 = .ok (.getfield 191, 3) := by decide +kernel
theorem dX12_commit_145 : decode cX12_commit 145 = .ok (.ifCond .ne 8, 3) := by decide +kernel
theorem dX12_commit_148 : decode cX12_commit 148 = .ok (.aload_n 0, 1) := by decide +kernel
theorem dX12_commit_149 : decode cX12_commit 149 = .ok (.iload_n 1, 1) := by decide +kernel
theorem dX12_commit_150 : decode cX12_commit 150 = .ok (.invokevirtual 198, 3) := by decide +kernel
theorem dX12_commit_153 : decode cX12_commit 153 = .ok (.aload_n 0, 1) := by decide +kernel
theorem dX12_commit_154 : decode cX12_commit 154 = .ok (.getfield 191, 3) := by decide +kernel
theorem dX12_commit_157 : decode cX12_commit 157 = .ok (.ifCond .ne 14, 3) := by decide +kernel
theorem dX12_commit_160 : decode cX12_commit 160 = .ok (.aload_n 0, 1) := by decide +kernel
theorem dX12_commit_161 : decode cX12_commit 161 = .ok (.getfield 13, 3) := by decide +kernel
theorem dX12_commit_164 : decode cX12_commit 164 = .ok (.sipush 5340, 3) := by decide +kernel
theorem dX12_commit_167 : decode cX12_commit 167 = .ok (.iaload, 1) := by decide +kernel
theorem dX12_commit_168 : decode cX12_commit 168 = .ok (.goto 4, 3) := by decide +kernel
theorem dX12_commit_171 : decode cX12_commit 171 = .ok (.iconst 0, 1) := by decide +kernel
theorem dX12_commit_172 : decode cX12_commit 172 = .ok (.ireturn, 1) := by decide +kernel
theorem dX12_commits_0 : decode cX12_commits 0 = .ok (.aload_n 0, 1) := by decide +kernel
theorem dX12_commits_1 : decode cX12_commits 1 = .ok (.getfield 13, 3) := by decide +kernel
theorem dX12_commits_4 : decode cX12_commits 4 = .ok (.sipush 5340, 3) := by decide +kernel
theorem dX12_commits_7 : decode cX12_commits 7 = .ok (.dup2, 1) := by decide +kernel
theorem dX12_commits_8 : decode cX12_commits 8 = .ok (.iaload, 1) := by decide +kernel
theorem dX12_commits_9 : decode cX12_commits 9 = .ok (.iconst 1, 1) := by decide +kernel
theorem dX12_commits_10 : decode cX12_commits 10 = .ok (.iadd, 1) := by decide +kernel
theorem dX12_commits_11 : decode cX12_commits 11 = .ok (.iastore, 1) := by decide +kernel
theorem dX12_commits_12 : decode cX12_commits 12 = .ok (.iconst 0, 1) := by decide +kernel
theorem dX12_commits_13 : decode cX12_commits 13 = .ok (.istore_n 2, 1) := by decide +kernel
theorem dX12_commits_14 : decode cX12_commits 14 = .ok (.iload_n 2, 1) := by decide +kernel
theorem dX12_commits_15 : decode cX12_commits 15 = .ok (.bipush 48, 2) := by decide +kernel
theorem dX12_commits_17 : decode cX12_commits 17 = .ok (.if_icmp .ge 111, 3) := by decide +kernel
theorem dX12_commits_20 : decode cX12_commits 20 = .ok (.aload_n 0, 1) := by decide +kernel
theorem dX12_commits_21 : decode cX12_commits 21 = .ok (.iload_n 1, 1) := by decide +kernel
theorem dX12_commits_22 : decode cX12_commits 22 = .ok (.iload_n 2, 1) := by decide +kernel
theorem dX12_commits_23 : decode cX12_commits 23 = .ok (.invokevirtual 98, 3) := by decide +kernel
theorem dX12_commits_26 : decode cX12_commits 26 = .ok (.istore_n 3, 1) := by decide +kernel
theorem dX12_commits_27 : decode cX12_commits 27 = .ok (.iload_n 3, 1) := by decide +kernel
theorem dX12_commits_28 : decode cX12_commits 28 = .ok (.iconst (-1), 1) := by decide +kernel
theorem dX12_commits_29 : decode cX12_commits 29 = .ok (.if_icmp .ne 6, 3) := by decide +kernel
theorem dX12_commits_32 : decode cX12_commits 32 = .ok (.goto 90, 3) := by decide +kernel
theorem dX12_commits_35 : decode cX12_commits 35 = .ok (.aload_n 0, 1) := by decide +kernel
theorem dX12_commits_36 : decode cX12_commits 36 = .ok (.iload_n 2, 1) := by decide +kernel
theorem dX12_commits_37 : decode cX12_commits 37 = .ok (.invokevirtual 171, 3) := by decide +kernel
theorem dX12_commits_40 : decode cX12_commits 40 = .ok (.istore 4, 2) := by decide +kernel
theorem dX12_commits_42 : decode cX12_commits 42 = .ok (.iload 4, 2) := by decide +kernel
theorem dX12_commits_44 : decode cX12_commits 44 = .ok (.iconst 5, 1) := by decide +kernel
theorem dX12_commits_45 : decode cX12_commits 45 = .ok (.iadd, 1) := by decide +kernel
theorem dX12_commits_46 : decode cX12_commits 46 = .ok (.istore 5, 2) := by decide +kernel
theorem dX12_commits_48 : decode cX12_commits 48 = .ok (.aload_n 0, 1) := by decide +kernel
theorem dX12_commits_49 : decode cX12_commits 49 = .ok (.getfield 13, 3) := by decide +kernel
theorem dX12_commits_52 : decode cX12_commits 52 = .ok (.sipush 1920, 3) := by decide +kernel
theorem dX12_commits_55 : decode cX12_commits 55 = .ok (.iload_n 2, 1) := by decide +kernel
theorem dX12_commits_56 : decode cX12_commits 56 = .ok (.iadd, 1) := by decide +kernel
theorem dX12_commits_57 : decode cX12_commits 57 = .ok (.dup2, 1) := by decide +kernel
theorem dX12_commits_58 : decode cX12_commits 58 = .ok (.iaload, 1) := by decide +kernel
theorem dX12_commits_59 : decode cX12_commits 59 = .ok (.iconst 1, 1) := by decide +kernel
theorem dX12_commits_60 : decode cX12_commits 60 = .ok (.iadd, 1) := by decide +kernel
theorem dX12_commits_61 : decode cX12_commits 61 = .ok (.iastore, 1) := by decide +kernel
theorem dX12_commits_62 : decode cX12_commits 62 = .ok (.aload_n 0, 1) := by decide +kernel
theorem dX12_commits_63 : decode cX12_commits 63 = .ok (.getfield 13, 3) := by decide +kernel
theorem dX12_commits_66 : decode cX12_commits 66 = .ok (.iload 5, 2) := by decide +kernel
theorem dX12_commits_68 : decode cX12_commits 68 = .ok (.aload_n 0, 1) := by decide +kernel
theorem dX12_commits_69 : decode cX12_commits 69 = .ok (.getfield 13, 3) := by decide +kernel
theorem dX12_commits_72 : decode cX12_commits 72 = .ok (.sipush 5340, 3) := by decide +kernel
theorem dX12_commits_75 : decode cX12_commits 75 = .ok (.iaload, 1) := by decide +kernel
theorem dX12_commits_76 : decode cX12_commits 76 = .ok (.iastore, 1) := by decide +kernel
theorem dX12_commits_77 : decode cX12_commits 77 = .ok (.aload_n 0, 1) := by decide +kernel
theorem dX12_commits_78 : decode cX12_commits 78 = .ok (.getfield 13, 3) := by decide +kernel
theorem dX12_commits_81 : decode cX12_commits 81 = .ok (.iload_n 3, 1) := by decide +kernel
theorem dX12_commits_82 : decode cX12_commits 82 = .ok (.iconst 1, 1) := by decide +kernel
theorem dX12_commits_83 : decode cX12_commits 83 = .ok (.iadd, 1) := by decide +kernel
theorem dX12_commits_84 : decode cX12_commits 84 = .ok (.aload_n 0, 1) := by decide +kernel
theorem dX12_commits_85 : decode cX12_commits 85 = .ok (.getfield 13, 3) := by decide +kernel
theorem dX12_commits_88 : decode cX12_commits 88 = .ok (.iload 5, 2) := by decide +kernel
theorem dX12_commits_90 : decode cX12_commits 90 = .ok (.iconst 1, 1) := by decide +kernel
theorem dX12_commits_91 : decode cX12_commits 91 = .ok (.iadd, 1) := by decide +kernel
theorem dX12_commits_92 : decode cX12_commits 92 = .ok (.iconst 4, 1) := by decide +kernel
theorem dX12_commits_93 : decode cX12_commits 93 = .ok (.invokestatic 76, 3) := by decide +kernel
theorem dX12_commits_96 : decode cX12_commits 96 = .ok (.iconst 0, 1) := by decide +kernel
theorem dX12_commits_97 : decode cX12_commits 97 = .ok (.istore 6, 2) := by decide +kernel
theorem dX12_commits_99 : decode cX12_commits 99 = .ok (.iload 6, 2) := by decide +kernel
theorem dX12_commits_101 : decode cX12_commits 101 = .ok (.iconst 2, 1) := by decide +kernel
theorem dX12_commits_102 : decode cX12_commits 102 = .ok (.if_icmp .ge 20, 3) := by decide +kernel
theorem dX12_commits_105 : decode cX12_commits 105 = .ok (.aload_n 0, 1) := by decide +kernel
theorem dX12_commits_106 : decode cX12_commits 106 = .ok (.iload 6, 2) := by decide +kernel
theorem dX12_commits_108 : decode cX12_commits 108 = .ok (.iload_n 2, 1) := by decide +kernel
theorem dX12_commits_109 : decode cX12_commits 109 = .ok (.iload 4, 2) := by decide +kernel
theorem dX12_commits_111 : decode cX12_commits 111 = .ok (.iload 5, 2) := by decide +kernel
theorem dX12_commits_113 : decode cX12_commits 113 = .ok (.invokevirtual 201, 3) := by decide +kernel
theorem dX12_commits_116 : decode cX12_commits 116 = .ok (.iinc 6 1, 3) := by decide +kernel
theorem dX12_commits_119 : decode cX12_commits 119 = .ok (.goto (-20), 3) := by decide +kernel
theorem dX12_commits_122 : decode cX12_commits 122 = .ok (.iinc 2 1, 3) := by decide +kernel
theorem dX12_commits_125 : decode cX12_commits 125 = .ok (.goto (-111), 3) := by decide +kernel
theorem dX12_commits_128 : decode cX12_commits 128 = .ok (.return_, 1) := by decide +kernel
theorem dX12_why_0 : decode cX12_why 0 = .ok (.aload_n 0, 1) := by decide +kernel
theorem dX12_why_1 : decode cX12_why 1 = .ok (.iconst 0, 1) := by decide +kernel
theorem dX12_why_2 : decode cX12_why 2 = .ok (.putfield 1, 3) := by decide +kernel
theorem dX12_why_5 : decode cX12_why 5 = .ok (.aload_n 0, 1) := by decide +kernel
theorem dX12_why_6 : decode cX12_why 6 = .ok (.getfield 191, 3) := by decide +kernel
theorem dX12_why_9 : decode cX12_why 9 = .ok (.ireturn, 1) := by decide +kernel
theorem dX12_roll_0 : decode cX12_roll 0 = .ok (.aload_n 0, 1) := by decide +kernel
theorem dX12_roll_1 : decode cX12_roll 1 = .ok (.iconst 0, 1) := by decide +kernel
theorem dX12_roll_2 : decode cX12_roll 2 = .ok (.putfield 1, 3) := by decide +kernel
theorem dX12_roll_5 : decode cX12_roll 5 = .ok (.iload_n 1, 1) := by decide +kernel
theorem dX12_roll_6 : decode cX12_roll 6 = .ok (.invokestatic 145, 3) := by decide +kernel
theorem dX12_roll_9 : decode cX12_roll 9 = .ok (.ifCond .ne 6, 3) := by decide +kernel
theorem dX12_roll_12 : decode cX12_roll 12 = .ok (.bipush (-2), 2) := by decide +kernel
theorem dX12_roll_14 : decode cX12_roll 14 = .ok (.ireturn, 1) := by decide +kernel
theorem dX12_roll_15 : decode cX12_roll 15 = .ok (.aload_n 0, 1) := by decide +kernel
theorem dX12_roll_16 : decode cX12_roll 16 = .ok (.iload_n 1, 1) := by decide +kernel
theorem dX12_roll_17 : decode cX12_roll 17 = .ok (.invokevirtual 149, 3) := by decide +kernel
theorem dX12_roll_20 : decode cX12_roll 20 = .ok (.ifCond .ne 6, 3) := by decide +kernel
theorem dX12_roll_23 : decode cX12_roll 23 = .ok (.bipush (-5), 2) := by decide +kernel
theorem dX12_roll_25 : decode cX12_roll 25 = .ok (.ireturn, 1) := by decide +kernel
theorem dX12_roll_26 : decode cX12_roll 26 = .ok (.aload_n 0, 1) := by decide +kernel
theorem dX12_roll_27 : decode cX12_roll 27 = .ok (.invokevirtual 152, 3) := by decide +kernel
theorem dX12_roll_30 : decode cX12_roll 30 = .ok (.aload_n 0, 1) := by decide +kernel
theorem dX12_roll_31 : decode cX12_roll 31 = .ok (.iload_n 1, 1) := by decide +kernel
theorem dX12_roll_32 : decode cX12_roll 32 = .ok (.iconst 2, 1) := by decide +kernel
theorem dX12_roll_33 : decode cX12_roll 33 = .ok (.invokevirtual 94, 3) := by decide +kernel
theorem dX12_roll_36 : decode cX12_roll 36 = .ok (.istore_n 2, 1) := by decide +kernel
theorem dX12_roll_37 : decode cX12_roll 37 = .ok (.aload_n 0, 1) := by decide +kernel
theorem dX12_roll_38 : decode cX12_roll 38 = .ok (.iload_n 1, 1) := by decide +kernel
theorem dX12_roll_39 : decode cX12_roll 39 = .ok (.invokevirtual 198, 3) := by decide +kernel
theorem dX12_roll_42 : decode cX12_roll 42 = .ok (.iload_n 2, 1) := by decide +kernel
theorem dX12_roll_43 : decode cX12_roll 43 = .ok (.ireturn, 1) := by decide +kernel
theorem dX12_see_0 : decode cX12_see 0 = .ok (.aload_n 0, 1) := by decide +kernel
theorem dX12_see_1 : decode cX12_see 1 = .ok (.iconst 0, 1) := by decide +kernel
theorem dX12_see_2 : decode cX12_see 2 = .ok (.putfield 1, 3) := by decide +kernel
theorem dX12_see_5 : decode cX12_see 5 = .ok (.iload_n 1, 1) := by decide +kernel
theorem dX12_see_6 : decode cX12_see 6 = .ok (.i2l, 1) := by decide +kernel
theorem dX12_see_7 : decode cX12_see 7 = .ok (.ldc2_w 205, 3) := by decide +kernel
theorem dX12_see_10 : decode cX12_see 10 = .ok (.ldc2_w 84, 3) := by decide +kernel
theorem dX12_see_13 : decode cX12_see 13 = .ok (.invokestatic 86, 3) := by decide +kernel
theorem dX12_see_16 : decode cX12_see 16 = .ok (.ifCond .eq 22, 3) := by decide +kernel
theorem dX12_see_19 : decode cX12_see 19 = .ok (.iload_n 2, 1) := by decide +kernel
theorem dX12_see_20 : decode cX12_see 20 = .ok (.invokestatic 155, 3) := by decide +kernel
theorem dX12_see_23 : decode cX12_see 23 = .ok (.ifCond .eq 15, 3) := by decide +kernel
theorem dX12_see_26 : decode cX12_see 26 = .ok (.iload_n 3, 1) := by decide +kernel
theorem dX12_see_27 : decode cX12_see 27 = .ok (.i2l, 1) := by decide +kernel
theorem dX12_see_28 : decode cX12_see 28 = .ok (.lconst 0, 1) := by decide +kernel
theorem dX12_see_29 : decode cX12_see 29 = .ok (.ldc2_w 84, 3) := by decide +kernel
theorem dX12_see_32 : decode cX12_see 32 = .ok (.invokestatic 86, 3) := by decide +kernel
theorem dX12_see_35 : decode cX12_see 35 = .ok (.ifCond .ne 6, 3) := by decide +kernel
theorem dX12_see_38 : decode cX12_see 38 = .ok (.bipush (-2), 2) := by decide +kernel
theorem dX12_see_40 : decode cX12_see 40 = .ok (.ireturn, 1) := by decide +kernel
theorem dX12_see_41 : decode cX12_see 41 = .ok (.iload_n 1, 1) := by decide +kernel
theorem dX12_see_42 : decode cX12_see 42 = .ok (.iconst (-1), 1) := by decide +kernel
theorem dX12_see_43 : decode cX12_see 43 = .ok (.if_icmp .eq 14, 3) := by decide +kernel
theorem dX12_see_46 : decode cX12_see 46 = .ok (.aload_n 0, 1) := by decide +kernel
theorem dX12_see_47 : decode cX12_see 47 = .ok (.iload_n 1, 1) := by decide +kernel
theorem dX12_see_48 : decode cX12_see 48 = .ok (.invokevirtual 149, 3) := by decide +kernel
theorem dX12_see_51 : decode cX12_see 51 = .ok (.ifCond .ne 6, 3) := by decide +kernel
theorem dX12_see_54 : decode cX12_see 54 = .ok (.bipush (-5), 2) := by decide +kernel
theorem dX12_see_56 : decode cX12_see 56 = .ok (.ireturn, 1) := by decide +kernel
theorem dX12_see_57 : decode cX12_see 57 = .ok (.iload_n 1, 1) := by decide +kernel
theorem dX12_see_58 : decode cX12_see 58 = .ok (.iconst (-1), 1) := by decide +kernel
theorem dX12_see_59 : decode cX12_see 59 = .ok (.if_icmp .ne 11, 3) := by decide +kernel
theorem dX12_see_62 : decode cX12_see 62 = .ok (.aload_n 0, 1) := by decide +kernel
theorem dX12_see_63 : decode cX12_see 63 = .ok (.iload_n 2, 1) := by decide +kernel
theorem dX12_see_64 : decode cX12_see 64 = .ok (.invokevirtual 171, 3) := by decide +kernel
theorem dX12_see_67 : decode cX12_see 67 = .ok (.goto 9, 3) := by decide +kernel
theorem dX12_see_70 : decode cX12_see 70 = .ok (.aload_n 0, 1) := by decide +kernel
theorem dX12_see_71 : decode cX12_see 71 = .ok (.iload_n 1, 1) := by decide +kernel
theorem dX12_see_72 : decode cX12_see 72 = .ok (.iload_n 2, 1) := by decide +kernel
theorem dX12_see_73 : decode cX12_see 73 = .ok (.invokevirtual 168, 3) := by decide +kernel
theorem dX12_see_76 : decode cX12_see 76 = .ok (.istore 4, 2) := by decide +kernel
theorem dX12_see_78 : decode cX12_see 78 = .ok (.iload_n 3, 1) := by decide +kernel
theorem dX12_see_79 : decode cX12_see 79 = .ok (.ifCond .ne 13, 3) := by decide +kernel
theorem dX12_see_82 : decode cX12_see 82 = .ok (.aload_n 0, 1) := by decide +kernel
theorem dX12_see_83 : decode cX12_see 83 = .ok (.getfield 13, 3) := by decide +kernel
theorem dX12_see_86 : decode cX12_see 86 = .ok (.iload 4, 2) := by decide +kernel
theorem dX12_see_88 : decode cX12_see 88 = .ok (.iconst 1, 1) := by decide +kernel
theorem dX12_see_89 : decode cX12_see 89 = .ok (.iadd, 1) := by decide +kernel
theorem dX12_see_90 : decode cX12_see 90 = .ok (.iaload, 1) := by decide +kernel
theorem dX12_see_91 : decode cX12_see 91 = .ok (.ireturn, 1) := by decide +kernel
theorem dX12_see_92 : decode cX12_see 92 = .ok (.aload_n 0, 1) := by decide +kernel
theorem dX12_see_93 : decode cX12_see 93 = .ok (.getfield 13, 3) := by decide +kernel
theorem dX12_see_96 : decode cX12_see 96 = .ok (.iload 4, 2) := by decide +kernel
theorem dX12_see_98 : decode cX12_see 98 = .ok (.iconst 1, 1) := by decide +kernel
theorem dX12_see_99 : decode cX12_see 99 = .ok (.iadd, 1) := by decide +kernel
theorem dX12_see_100 : decode cX12_see 100 = .ok (.iaload, 1) := by decide +kernel
theorem dX12_see_101 : decode cX12_see 101 = .ok (.iconst 1, 1) := by decide +kernel
theorem dX12_see_102 : decode cX12_see 102 = .ok (.if_icmp .ne 17, 3) := by decide +kernel
theorem dX12_see_105 : decode cX12_see 105 = .ok (.aload_n 0, 1) := by decide +kernel
theorem dX12_see_106 : decode cX12_see 106 = .ok (.getfield 13, 3) := by decide +kernel
theorem dX12_see_109 : decode cX12_see 109 = .ok (.iload 4, 2) := by decide +kernel
theorem dX12_see_111 : decode cX12_see 111 = .ok (.iconst 1, 1) := by decide +kernel
theorem dX12_see_112 : decode cX12_see 112 = .ok (.iadd, 1) := by decide +kernel
theorem dX12_see_113 : decode cX12_see 113 = .ok (.iload_n 3, 1) := by decide +kernel
theorem dX12_see_114 : decode cX12_see 114 = .ok (.iadd, 1) := by decide +kernel
theorem dX12_see_115 : decode cX12_see 115 = .ok (.iaload, 1) := by decide +kernel
theorem dX12_see_116 : decode cX12_see 116 = .ok (.goto 4, 3) := by decide +kernel
theorem dX12_see_119 : decode cX12_see 119 = .ok (.iconst (-1), 1) := by decide +kernel
theorem dX12_see_120 : decode cX12_see 120 = .ok (.ireturn, 1) := by decide +kernel
theorem dX12_isSeen_0 : decode cX12_isSeen 0 = .ok (.iload_n 2, 1) := by decide +kernel
theorem dX12_isSeen_1 : decode cX12_isSeen 1 = .ok (.aload_n 0, 1) := by decide +kernel
theorem dX12_isSeen_2 : decode cX12_isSeen 2 = .ok (.iload_n 1, 1) := by decide +kernel
theorem dX12_isSeen_3 : decode cX12_isSeen 3 = .ok (.invokevirtual 171, 3) := by decide +kernel
theorem dX12_isSeen_6 : decode cX12_isSeen 6 = .ok (.if_icmp .ne 5, 3) := by decide +kernel
theorem dX12_isSeen_9 : decode cX12_isSeen 9 = .ok (.iconst 1, 1) := by decide +kernel
theorem dX12_isSeen_10 : decode cX12_isSeen 10 = .ok (.ireturn, 1) := by decide +kernel
theorem dX12_isSeen_11 : decode cX12_isSeen 11 = .ok (.iconst 0, 1) := by decide +kernel
theorem dX12_isSeen_12 : decode cX12_isSeen 12 = .ok (.istore_n 3, 1) := by decide +kernel
theorem dX12_isSeen_13 : decode cX12_isSeen 13 = .ok (.iload_n 3, 1) := by decide +kernel
theorem dX12_isSeen_14 : decode cX12_isSeen 14 = .ok (.iconst 4, 1) := by decide +kernel
theorem dX12_isSeen_15 : decode cX12_isSeen 15 = .ok (.if_icmp .ge 34, 3) := by decide +kernel
theorem dX12_isSeen_18 : decode cX12_isSeen 18 = .ok (.aload_n 0, 1) := by decide +kernel
theorem dX12_isSeen_19 : decode cX12_isSeen 19 = .ok (.iload_n 3, 1) := by decide +kernel
theorem dX12_isSeen_20 : decode cX12_isSeen 20 = .ok (.invokevirtual 149, 3) := by decide +kernel
theorem dX12_isSeen_23 : decode cX12_isSeen 23 = .ok (.ifCond .eq 20, 3) := by decide +kernel
theorem dX12_isSeen_26 : decode cX12_isSeen 26 = .ok (.aload_n 0, 1) := by decide +kernel
theorem dX12_isSeen_27 : decode cX12_isSeen 27 = .ok (.iload_n 1, 1) := by decide +kernel
theorem dX12_isSeen_28 : decode cX12_isSeen 28 = .ok (.aload_n 0, 1) := by decide +kernel
theorem dX12_isSeen_29 : decode cX12_isSeen 29 = .ok (.iload_n 3, 1) := by decide +kernel
theorem dX12_isSeen_30 : decode cX12_isSeen 30 = .ok (.iconst 1, 1) := by decide +kernel
theorem dX12_isSeen_31 : decode cX12_isSeen 31 = .ok (.invokevirtual 94, 3) := by decide +kernel
theorem dX12_isSeen_34 : decode cX12_isSeen 34 = .ok (.invokevirtual 101, 3) := by decide +kernel
theorem dX12_isSeen_37 : decode cX12_isSeen 37 = .ok (.iload_n 2, 1) := by decide +kernel
theorem dX12_isSeen_38 : decode cX12_isSeen 38 = .ok (.if_icmp .ne 5, 3) := by decide +kernel
theorem dX12_isSeen_41 : decode cX12_isSeen 41 = .ok (.iconst 1, 1) := by decide +kernel
theorem dX12_isSeen_42 : decode cX12_isSeen 42 = .ok (.ireturn, 1) := by decide +kernel
theorem dX12_isSeen_43 : decode cX12_isSeen 43 = .ok (.iinc 3 1, 3) := by decide +kernel
theorem dX12_isSeen_46 : decode cX12_isSeen 46 = .ok (.goto (-33), 3) := by decide +kernel
theorem dX12_isSeen_49 : decode cX12_isSeen 49 = .ok (.iconst 0, 1) := by decide +kernel
theorem dX12_isSeen_50 : decode cX12_isSeen 50 = .ok (.istore_n 3, 1) := by decide +kernel
theorem dX12_isSeen_51 : decode cX12_isSeen 51 = .ok (.iload_n 3, 1) := by decide +kernel
theorem dX12_isSeen_52 : decode cX12_isSeen 52 = .ok (.iconst 2, 1) := by decide +kernel
theorem dX12_isSeen_53 : decode cX12_isSeen 53 = .ok (.if_icmp .ge 36, 3) := by decide +kernel
theorem dX12_isSeen_56 : decode cX12_isSeen 56 = .ok (.aload_n 0, 1) := by decide +kernel
theorem dX12_isSeen_57 : decode cX12_isSeen 57 = .ok (.iload_n 3, 1) := by decide +kernel
theorem dX12_isSeen_58 : decode cX12_isSeen 58 = .ok (.iconst 0, 1) := by decide +kernel
theorem dX12_isSeen_59 : decode cX12_isSeen 59 = .ok (.invokevirtual 104, 3) := by decide +kernel
theorem dX12_isSeen_62 : decode cX12_isSeen 62 = .ok (.iconst 1, 1) := by decide +kernel
theorem dX12_isSeen_63 : decode cX12_isSeen 63 = .ok (.if_icmp .ne 20, 3) := by decide +kernel
theorem dX12_isSeen_66 : decode cX12_isSeen 66 = .ok (.aload_n 0, 1) := by decide +kernel
theorem dX12_isSeen_67 : decode cX12_isSeen 67 = .ok (.iload_n 1, 1) := by decide +kernel
theorem dX12_isSeen_68 : decode cX12_isSeen 68 = .ok (.aload_n 0, 1) := by decide +kernel
theorem dX12_isSeen_69 : decode cX12_isSeen 69 = .ok (.iload_n 3, 1) := by decide +kernel
theorem dX12_isSeen_70 : decode cX12_isSeen 70 = .ok (.iconst 3, 1) := by decide +kernel
theorem dX12_isSeen_71 : decode cX12_isSeen 71 = .ok (.invokevirtual 104, 3) := by decide +kernel
theorem dX12_isSeen_74 : decode cX12_isSeen 74 = .ok (.invokevirtual 101, 3) := by decide +kernel
theorem dX12_isSeen_77 : decode cX12_isSeen 77 = .ok (.iload_n 2, 1) := by decide +kernel
theorem dX12_isSeen_78 : decode cX12_isSeen 78 = .ok (.if_icmp .ne 5, 3) := by decide +kernel
theorem dX12_isSeen_81 : decode cX12_isSeen 81 = .ok (.iconst 1, 1) := by decide +kernel
theorem dX12_isSeen_82 : decode cX12_isSeen 82 = .ok (.ireturn, 1) := by decide +kernel
theorem dX12_isSeen_83 : decode cX12_isSeen 83 = .ok (.iinc 3 1, 3) := by decide +kernel
theorem dX12_isSeen_86 : decode cX12_isSeen 86 = .ok (.goto (-35), 3) := by decide +kernel
theorem dX12_isSeen_89 : decode cX12_isSeen 89 = .ok (.iconst 0, 1) := by decide +kernel
theorem dX12_isSeen_90 : decode cX12_isSeen 90 = .ok (.ireturn, 1) := by decide +kernel
theorem dX12_sweep_0 : decode cX12_sweep 0 = .ok (.aload_n 0, 1) := by decide +kernel
theorem dX12_sweep_1 : decode cX12_sweep 1 = .ok (.iconst 0, 1) := by decide +kernel
theorem dX12_sweep_2 : decode cX12_sweep 2 = .ok (.putfield 1, 3) := by decide +kernel
theorem dX12_sweep_5 : decode cX12_sweep 5 = .ok (.aload_n 0, 1) := by decide +kernel
theorem dX12_sweep_6 : decode cX12_sweep 6 = .ok (.invokevirtual 152, 3) := by decide +kernel
theorem dX12_sweep_9 : decode cX12_sweep 9 = .ok (.iconst 0, 1) := by decide +kernel
theorem dX12_sweep_10 : decode cX12_sweep 10 = .ok (.istore_n 1, 1) := by decide +kernel
theorem dX12_sweep_11 : decode cX12_sweep 11 = .ok (.iconst 0, 1) := by decide +kernel
theorem dX12_sweep_12 : decode cX12_sweep 12 = .ok (.istore_n 2, 1) := by decide +kernel
theorem dX12_sweep_13 : decode cX12_sweep 13 = .ok (.iload_n 2, 1) := by decide +kernel
theorem dX12_sweep_14 : decode cX12_sweep 14 = .ok (.bipush 48, 2) := by decide +kernel
theorem dX12_sweep_16 : decode cX12_sweep 16 = .ok (.if_icmp .ge 139, 3) := by decide +kernel
theorem dX12_sweep_19 : decode cX12_sweep 19 = .ok (.aload_n 0, 1) := by decide +kernel
theorem dX12_sweep_20 : decode cX12_sweep 20 = .ok (.getfield 13, 3) := by decide +kernel
theorem dX12_sweep_23 : decode cX12_sweep 23 = .ok (.sipush 1920, 3) := by decide +kernel
theorem dX12_sweep_26 : decode cX12_sweep 26 = .ok (.iload_n 2, 1) := by decide +kernel
theorem dX12_sweep_27 : decode cX12_sweep 27 = .ok (.iadd, 1) := by decide +kernel
theorem dX12_sweep_28 : decode cX12_sweep 28 = .ok (.iaload, 1) := by decide +kernel
theorem dX12_sweep_29 : decode cX12_sweep 29 = .ok (.istore_n 3, 1) := by decide +kernel
theorem dX12_sweep_30 : decode cX12_sweep 30 = .ok (.iconst 0, 1) := by decide +kernel
theorem dX12_sweep_31 : decode cX12_sweep 31 = .ok (.istore 4, 2) := by decide +kernel
theorem dX12_sweep_33 : decode cX12_sweep 33 = .ok (.iload 4, 2) := by decide +kernel
theorem dX12_sweep_35 : decode cX12_sweep 35 = .ok (.iload_n 3, 1) := by decide +kernel
theorem dX12_sweep_36 : decode cX12_sweep 36 = .ok (.if_icmp .ge 30, 3) := by decide +kernel
theorem dX12_sweep_39 : decode cX12_sweep 39 = .ok (.aload_n 0, 1) := by decide +kernel
theorem dX12_sweep_40 : decode cX12_sweep 40 = .ok (.getfield 28, 3) := by decide +kernel
theorem dX12_sweep_43 : decode cX12_sweep 43 = .ok (.iload 4, 2) := by decide +kernel
theorem dX12_sweep_45 : decode cX12_sweep 45 = .ok (.aload_n 0, 1) := by decide +kernel
theorem dX12_sweep_46 : decode cX12_sweep 46 = .ok (.iload_n 2, 1) := by decide +kernel
theorem dX12_sweep_47 : decode cX12_sweep 47 = .ok (.bipush 40, 2) := by decide +kernel
theorem dX12_sweep_49 : decode cX12_sweep 49 = .ok (.iload_n 2, 1) := by decide +kernel
theorem dX12_sweep_50 : decode cX12_sweep 50 = .ok (.imul, 1) := by decide +kernel
theorem dX12_sweep_51 : decode cX12_sweep 51 = .ok (.iconst 5, 1) := by decide +kernel
theorem dX12_sweep_52 : decode cX12_sweep 52 = .ok (.iload 4, 2) := by decide +kernel
theorem dX12_sweep_54 : decode cX12_sweep 54 = .ok (.imul, 1) := by decide +kernel
theorem dX12_sweep_55 : decode cX12_sweep 55 = .ok (.iadd, 1) := by decide +kernel
theorem dX12_sweep_56 : decode cX12_sweep 56 = .ok (.invokevirtual 207, 3) := by decide +kernel
theorem dX12_sweep_59 : decode cX12_sweep 59 = .ok (.bastore, 1) := by decide +kernel
theorem dX12_sweep_60 : decode cX12_sweep 60 = .ok (.iinc 4 1, 3) := by decide +kernel
theorem dX12_sweep_63 : decode cX12_sweep 63 = .ok (.goto (-30), 3) := by decide +kernel
theorem dX12_sweep_66 : decode cX12_sweep 66 = .ok (.iconst 0, 1) := by decide +kernel
theorem dX12_sweep_67 : decode cX12_sweep 67 = .ok (.istore 4, 2) := by decide +kernel
theorem dX12_sweep_69 : decode cX12_sweep 69 = .ok (.iconst 0, 1) := by decide +kernel
theorem dX12_sweep_70 : decode cX12_sweep 70 = .ok (.istore 5, 2) := by decide +kernel
theorem dX12_sweep_72 : decode cX12_sweep 72 = .ok (.iload 5, 2) := by decide +kernel
theorem dX12_sweep_74 : decode cX12_sweep 74 = .ok (.iload_n 3, 1) := by decide +kernel
theorem dX12_sweep_75 : decode cX12_sweep 75 = .ok (.if_icmp .ge 55, 3) := by decide +kernel
theorem dX12_sweep_78 : decode cX12_sweep 78 = .ok (.aload_n 0, 1) := by decide +kernel
theorem dX12_sweep_79 : decode cX12_sweep 79 = .ok (.getfield 28, 3) := by decide +kernel
theorem dX12_sweep_82 : decode cX12_sweep 82 = .ok (.iload 5, 2) := by decide +kernel
theorem dX12_sweep_84 : decode cX12_sweep 84 = .ok (.baload, 1) := by decide +kernel
theorem dX12_sweep_85 : decode cX12_sweep 85 = .ok (.ifCond .ne 6, 3) := by decide +kernel
theorem dX12_sweep_88 : decode cX12_sweep 88 = .ok (.goto 36, 3) := by decide +kernel
theorem dX12_sweep_91 : decode cX12_sweep 91 = .ok (.aload_n 0, 1) := by decide +kernel
theorem dX12_sweep_92 : decode cX12_sweep 92 = .ok (.getfield 13, 3) := by decide +kernel
theorem dX12_sweep_95 : decode cX12_sweep 95 = .ok (.bipush 40, 2) := by decide +kernel
theorem dX12_sweep_97 : decode cX12_sweep 97 = .ok (.iload_n 2, 1) := by decide +kernel
theorem dX12_sweep_98 : decode cX12_sweep 98 = .ok (.imul, 1) := by decide +kernel
theorem dX12_sweep_99 : decode cX12_sweep 99 = .ok (.iconst 5, 1) := by decide +kernel
theorem dX12_sweep_100 : decode cX12_sweep 100 = .ok (.iload 5, 2) := by decide +kernel
theorem dX12_sweep_102 : decode cX12_sweep 102 = .ok (.imul, 1) := by decide +kernel
theorem dX12_sweep_103 : decode cX12_sweep 103 = .ok (.iadd, 1) := by decide +kernel
theorem dX12_sweep_104 : decode cX12_sweep 104 = .ok (.aload_n 0, 1) := by decide +kernel
theorem dX12_sweep_105 : decode cX12_sweep 105 = .ok (.getfield 13, 3) := by decide +kernel
theorem dX12_sweep_108 : decode cX12_sweep 108 = .ok (.bipush 40, 2) := by decide +kernel
theorem dX12_sweep_110 : decode cX12_sweep 110 = .ok (.iload_n 2, 1) := by decide +kernel
theorem dX12_sweep_111 : decode cX12_sweep 111 = .ok (.imul, 1) := by decide +kernel
theorem dX12_sweep_112 : decode cX12_sweep 112 = .ok (.iconst 5, 1) := by decide +kernel
theorem dX12_sweep_113 : decode cX12_sweep 113 = .ok (.iload 4, 2) := by decide +kernel
theorem dX12_sweep_115 : decode cX12_sweep 115 = .ok (.imul, 1) := by decide +kernel
theorem dX12_sweep_116 : decode cX12_sweep 116 = .ok (.iadd, 1) := by decide +kernel
theorem dX12_sweep_117 : decode cX12_sweep 117 = .ok (.iconst 5, 1) := by decide +kernel
theorem dX12_sweep_118 : decode cX12_sweep 118 = .ok (.invokestatic 76, 3) := by decide +kernel
theorem dX12_sweep_121 : decode cX12_sweep 121 = .ok (.iinc 4 1, 3) := by decide +kernel
theorem dX12_sweep_124 : decode cX12_sweep 124 = .ok (.iinc 5 1, 3) := by decide +kernel
theorem dX12_sweep_127 : decode cX12_sweep 127 = .ok (.goto (-55), 3) := by decide +kernel
theorem dX12_sweep_130 : decode cX12_sweep 130 = .ok (.aload_n 0, 1) := by decide +kernel
theorem dX12_sweep_131 : decode cX12_sweep 131 = .ok (.getfield 13, 3) := by decide +kernel
theorem dX12_sweep_134 : decode cX12_sweep 134 = .ok (.sipush 1920, 3) := by decide +kernel
theorem dX12_sweep_137 : decode cX12_sweep 137 = .ok (.iload_n 2, 1) := by decide +kernel
theorem dX12_sweep_138 : decode cX12_sweep 138 = .ok (.iadd, 1) := by decide +kernel
theorem dX12_sweep_139 : decode cX12_sweep 139 = .ok (.iload 4, 2) := by decide +kernel
theorem dX12_sweep_141 : decode cX12_sweep 141 = .ok (.iastore, 1) := by decide +kernel
theorem dX12_sweep_142 : decode cX12_sweep 142 = .ok (.iload_n 1, 1) := by decide +kernel
theorem dX12_sweep_143 : decode cX12_sweep 143 = .ok (.iload_n 3, 1) := by decide +kernel
theorem dX12_sweep_144 : decode cX12_sweep 144 = .ok (.iload 4, 2) := by decide +kernel
theorem dX12_sweep_146 : decode cX12_sweep 146 = .ok (.isub, 1) := by decide +kernel
theorem dX12_sweep_147 : decode cX12_sweep 147 = .ok (.iadd, 1) := by decide +kernel
theorem dX12_sweep_148 : decode cX12_sweep 148 = .ok (.istore_n 1, 1) := by decide +kernel
theorem dX12_sweep_149 : decode cX12_sweep 149 = .ok (.iinc 2 1, 3) := by decide +kernel
theorem dX12_sweep_152 : decode cX12_sweep 152 = .ok (.goto (-139), 3) := by decide +kernel
theorem dX12_sweep_155 : decode cX12_sweep 155 = .ok (.iload_n 1, 1) := by decide +kernel
theorem dX12_sweep_156 : decode cX12_sweep 156 = .ok (.ireturn, 1) := by decide +kernel
theorem dX12_feed_0 : decode cX12_feed 0 = .ok (.aload_n 0, 1) := by decide +kernel
theorem dX12_feed_1 : decode cX12_feed 1 = .ok (.iconst 0, 1) := by decide +kernel
theorem dX12_feed_2 : decode cX12_feed 2 = .ok (.putfield 1, 3) := by decide +kernel
theorem dX12_feed_5 : decode cX12_feed 5 = .ok (.aload_n 0, 1) := by decide +kernel
theorem dX12_feed_6 : decode cX12_feed 6 = .ok (.getfield 210, 3) := by decide +kernel
theorem dX12_feed_9 : decode cX12_feed 9 = .ok (.bipush 20, 2) := by decide +kernel
theorem dX12_feed_11 : decode cX12_feed 11 = .ok (.iadd, 1) := by decide +kernel
theorem dX12_feed_12 : decode cX12_feed 12 = .ok (.bipush 100, 2) := by decide +kernel
theorem dX12_feed_14 : decode cX12_feed 14 = .ok (.if_icmp .le 6, 3) := by decide +kernel
theorem dX12_feed_17 : decode cX12_feed 17 = .ok (.bipush (-4), 2) := by decide +kernel
theorem dX12_feed_19 : decode cX12_feed 19 = .ok (.ireturn, 1) := by decide +kernel
theorem dX12_feed_20 : decode cX12_feed 20 = .ok (.iconst 0, 1) := by decide +kernel
theorem dX12_feed_21 : decode cX12_feed 21 = .ok (.istore 6, 2) := by decide +kernel
theorem dX12_feed_23 : decode cX12_feed 23 = .ok (.iload 6, 2) := by decide +kernel
theorem dX12_feed_25 : decode cX12_feed 25 = .ok (.bipush 20, 2) := by decide +kernel
theorem dX12_feed_27 : decode cX12_feed 27 = .ok (.if_icmp .ge 90, 3) := by decide +kernel
theorem dX12_feed_30 : decode cX12_feed 30 = .ok (.iload 6, 2) := by decide +kernel
theorem dX12_feed_32 : decode cX12_feed 32 = .ok (.iconst 4, 1) := by decide +kernel
theorem dX12_feed_33 : decode cX12_feed 33 = .ok (.if_icmp .ge 7, 3) := by decide +kernel
theorem dX12_feed_36 : decode cX12_feed 36 = .ok (.iload_n 1, 1) := by decide +kernel
theorem dX12_feed_37 : decode cX12_feed 37 = .ok (.goto 39, 3) := by decide +kernel
theorem dX12_feed_40 : decode cX12_feed 40 = .ok (.iload 6, 2) := by decide +kernel
theorem dX12_feed_42 : decode cX12_feed 42 = .ok (.bipush 8, 2) := by decide +kernel
theorem dX12_feed_44 : decode cX12_feed 44 = .ok (.if_icmp .ge 7, 3) := by decide +kernel
theorem dX12_feed_47 : decode cX12_feed 47 = .ok (.iload_n 2, 1) := by decide +kernel
theorem dX12_feed_48 : decode cX12_feed 48 = .ok (.goto 28, 3) := by decide +kernel
theorem dX12_feed_51 : decode cX12_feed 51 = .ok (.iload 6, 2) := by decide +kernel
theorem dX12_feed_53 : decode cX12_feed 53 = .ok (.bipush 12, 2) := by decide +kernel
theorem dX12_feed_55 : decode cX12_feed 55 = .ok (.if_icmp .ge 7, 3) := by decide +kernel
theorem dX12_feed_58 : decode cX12_feed 58 = .ok (.iload_n 3, 1) := by decide +kernel
theorem dX12_feed_59 : decode cX12_feed 59 = .ok (.goto 17, 3) := by decide +kernel
theorem dX12_feed_62 : decode cX12_feed 62 = .ok (.iload 6, 2) := by decide +kernel
theorem dX12_feed_64 : decode cX12_feed 64 = .ok (.bipush 16, 2) := by decide +kernel
theorem dX12_feed_66 : decode cX12_feed 66 = .ok (.if_icmp .ge 8, 3) := by decide +kernel
theorem dX12_feed_69 : decode cX12_feed 69 = .ok (.iload 4, 2) := by decide +kernel
theorem dX12_feed_71 : decode cX12_feed 71 = .ok (.goto 5, 3) := by decide +kernel
theorem dX12_feed_74 : decode cX12_feed 74 = .ok (.iload 5, 2) := by decide +kernel
theorem dX12_feed_76 : decode cX12_feed 76 = .ok (.istore 7, 2) := by decide +kernel
theorem dX12_feed_78 : decode cX12_feed 78 = .ok (.aload_n 0, 1) := by decide +kernel
theorem dX12_feed_79 : decode cX12_feed 79 = .ok (.getfield 31, 3) := by decide +kernel
theorem dX12_feed_82 : decode cX12_feed 82 = .ok (.aload_n 0, 1) := by decide +kernel
theorem dX12_feed_83 : decode cX12_feed 83 = .ok (.getfield 210, 3) := by decide +kernel
theorem dX12_feed_86 : decode cX12_feed 86 = .ok (.iload 7, 2) := by decide +kernel
theorem dX12_feed_88 : decode cX12_feed 88 = .ok (.bipush 24, 2) := by decide +kernel
theorem dX12_feed_90 : decode cX12_feed 90 = .ok (.bipush 8, 2) := by decide +kernel
theorem dX12_feed_92 : decode cX12_feed 92 = .ok (.iload 6, 2) := by decide +kernel
theorem dX12_feed_94 : decode cX12_feed 94 = .ok (.iconst 4, 1) := by decide +kernel
theorem dX12_feed_95 : decode cX12_feed 95 = .ok (.irem, 1) := by decide +kernel
theorem dX12_feed_96 : decode cX12_feed 96 = .ok (.imul, 1) := by decide +kernel
theorem dX12_feed_97 : decode cX12_feed 97 = .ok (.isub, 1) := by decide +kernel
theorem dX12_feed_98 : decode cX12_feed 98 = .ok (.ishr, 1) := by decide +kernel
theorem dX12_feed_99 : decode cX12_feed 99 = .ok (.i2b, 1) := by decide +kernel
theorem dX12_feed_100 : decode cX12_feed 100 = .ok (.bastore, 1) := by decide +kernel
theorem dX12_feed_101 : decode cX12_feed 101 = .ok (.aload_n 0, 1) := by decide +kernel
theorem dX12_feed_102 : decode cX12_feed 102 = .ok (.dup, 1) := by decide +kernel
theorem dX12_feed_103 : decode cX12_feed 103 = .ok (.getfield 210, 3) := by decide +kernel
theorem dX12_feed_106 : decode cX12_feed 106 = .ok (.iconst 1, 1) := by decide +kernel
theorem dX12_feed_107 : decode cX12_feed 107 = .ok (.iadd, 1) := by decide +kernel
theorem dX12_feed_108 : decode cX12_feed 108 = .ok (.putfield 210, 3) := by decide +kernel
theorem dX12_feed_111 : decode cX12_feed 111 = .ok (.iinc 6 1, 3) := by decide +kernel
theorem dX12_feed_114 : decode cX12_feed 114 = .ok (.goto (-91), 3) := by decide +kernel
theorem dX12_feed_117 : decode cX12_feed 117 = .ok (.aload_n 0, 1) := by decide +kernel
theorem dX12_feed_118 : decode cX12_feed 118 = .ok (.getfield 210, 3) := by decide +kernel
theorem dX12_feed_121 : decode cX12_feed 121 = .ok (.ireturn, 1) := by decide +kernel
theorem dX12_peek_0 : decode cX12_peek 0 = .ok (.aload_n 0, 1) := by decide +kernel
theorem dX12_peek_1 : decode cX12_peek 1 = .ok (.getfield 213, 3) := by decide +kernel
theorem dX12_peek_4 : decode cX12_peek 4 = .ok (.aload_n 0, 1) := by decide +kernel
theorem dX12_peek_5 : decode cX12_peek 5 = .ok (.getfield 216, 3) := by decide +kernel
theorem dX12_peek_8 : decode cX12_peek 8 = .ok (.if_icmp .ge 19, 3) := by decide +kernel
theorem dX12_peek_11 : decode cX12_peek 11 = .ok (.aload_n 0, 1) := by decide +kernel
theorem dX12_peek_12 : decode cX12_peek 12 = .ok (.getfield 31, 3) := by decide +kernel
theorem dX12_peek_15 : decode cX12_peek 15 = .ok (.aload_n 0, 1) := by decide +kernel
theorem dX12_peek_16 : decode cX12_peek 16 = .ok (.getfield 213, 3) := by decide +kernel
theorem dX12_peek_19 : decode cX12_peek 19 = .ok (.baload, 1) := by decide +kernel
theorem dX12_peek_20 : decode cX12_peek 20 = .ok (.sipush 255, 3) := by decide +kernel
theorem dX12_peek_23 : decode cX12_peek 23 = .ok (.iand, 1) := by decide +kernel
theorem dX12_peek_24 : decode cX12_peek 24 = .ok (.goto 4, 3) := by decide +kernel
theorem dX12_peek_27 : decode cX12_peek 27 = .ok (.iconst (-1), 1) := by decide +kernel
theorem dX12_peek_28 : decode cX12_peek 28 = .ok (.ireturn, 1) := by decide +kernel
theorem dX12_blanks_0 : decode cX12_blanks 0 = .ok (.aload_n 0, 1) := by decide +kernel
theorem dX12_blanks_1 : decode cX12_blanks 1 = .ok (.invokevirtual 219, 3) := by decide +kernel
theorem dX12_blanks_4 : decode cX12_blanks 4 = .ok (.bipush 32, 2) := by decide +kernel
theorem dX12_blanks_6 : decode cX12_blanks 6 = .ok (.if_icmp .ne 16, 3) := by decide +kernel
theorem dX12_blanks_9 : decode cX12_blanks 9 = .ok (.aload_n 0, 1) := by decide +kernel
theorem dX12_blanks_10 : decode cX12_blanks 10 = .ok (.dup, 1) := by decide +kernel
theorem dX12_blanks_11 : decode cX12_blanks 11 = .ok (.getfield 213, 3) := by decide +kernel
theorem dX12_blanks_14 : decode cX12_blanks 14 = .ok (.iconst 1, 1) := by decide +kernel
theorem dX12_blanks_15 : decode cX12_blanks 15 = .ok (.iadd, 1) := by decide +kernel
theorem dX12_blanks_16 : decode cX12_blanks 16 = .ok (.putfield 213, 3) := by decide +kernel
theorem dX12_blanks_19 : decode cX12_blanks 19 = .ok (.goto (-19), 3) := by decide +kernel
theorem dX12_blanks_22 : decode cX12_blanks 22 = .ok (.return_, 1) := by decide +kernel
theorem dX12_fails_0 : decode cX12_fails 0 = .ok (.aload_n 0, 1) := by decide +kernel
theorem dX12_fails_1 : decode cX12_fails 1 = .ok (.getfield 223, 3) := by decide +kernel
theorem dX12_fails_4 : decode cX12_fails 4 = .ok (.ifCond .eq 4, 3) := by decide +kernel
theorem dX12_fails_7 : decode cX12_fails 7 = .ok (.return_, 1) := by decide +kernel
theorem dX12_fails_8 : decode cX12_fails 8 = .ok (.aload_n 0, 1) := by decide +kernel
theorem dX12_fails_9 : decode cX12_fails 9 = .ok (.iload_n 1, 1) := by decide +kernel
theorem dX12_fails_10 : decode cX12_fails 10 = .ok (.putfield 223, 3) := by decide +kernel
theorem dX12_fails_13 : decode cX12_fails 13 = .ok (.aload_n 0, 1) := by decide +kernel
theorem dX12_fails_14 : decode cX12_fails 14 = .ok (.iload_n 2, 1) := by decide +kernel
theorem dX12_fails_15 : decode cX12_fails 15 = .ok (.putfield 35, 3) := by decide +kernel
theorem dX12_fails_18 : decode cX12_fails 18 = .ok (.return_, 1) := by decide +kernel
theorem dX12_word_0 : decode cX12_word 0 = .ok (.aload_n 0, 1) := by decide +kernel
theorem dX12_word_1 : decode cX12_word 1 = .ok (.invokevirtual 226, 3) := by decide +kernel
theorem dX12_word_4 : decode cX12_word 4 = .ok (.aload_n 0, 1) := by decide +kernel
theorem dX12_word_5 : decode cX12_word 5 = .ok (.aload_n 0, 1) := by decide +kernel
theorem dX12_word_6 : decode cX12_word 6 = .ok (.getfield 213, 3) := by decide +kernel
theorem dX12_word_9 : decode cX12_word 9 = .ok (.putfield 229, 3) := by decide +kernel
theorem dX12_word_12 : decode cX12_word 12 = .ok (.aload_n 0, 1) := by decide +kernel
theorem dX12_word_13 : decode cX12_word 13 = .ok (.aload_n 0, 1) := by decide +kernel
theorem dX12_word_14 : decode cX12_word 14 = .ok (.getfield 213, 3) := by decide +kernel
theorem dX12_word_17 : decode cX12_word 17 = .ok (.putfield 232, 3) := by decide +kernel
theorem dX12_word_20 : decode cX12_word 20 = .ok (.aload_n 0, 1) := by decide +kernel
theorem dX12_word_21 : decode cX12_word 21 = .ok (.getfield 232, 3) := by decide +kernel
theorem dX12_word_24 : decode cX12_word 24 = .ok (.aload_n 0, 1) := by decide +kernel
theorem dX12_word_25 : decode cX12_word 25 = .ok (.getfield 216, 3) := by decide +kernel
theorem dX12_word_28 : decode cX12_word 28 = .ok (.if_icmp .ge 38, 3) := by decide +kernel
theorem dX12_word_31 : decode cX12_word 31 = .ok (.aload_n 0, 1) := by decide +kernel
theorem dX12_word_32 : decode cX12_word 32 = .ok (.getfield 31, 3) := by decide +kernel
theorem dX12_word_35 : decode cX12_word 35 = .ok (.aload_n 0, 1) := by decide +kernel
theorem dX12_word_36 : decode cX12_word 36 = .ok (.getfield 232, 3) := by decide +kernel
theorem dX12_word_39 : decode cX12_word 39 = .ok (.baload, 1) := by decide +kernel
theorem dX12_word_40 : decode cX12_word 40 = .ok (.i2l, 1) := by decide +kernel
theorem dX12_word_41 : decode cX12_word 41 = .ok (.ldc2_w 235, 3) := by decide +kernel
theorem dX12_word_44 : decode cX12_word 44 = .ok (.ldc2_w 237, 3) := by decide +kernel
theorem dX12_word_47 : decode cX12_word 47 = .ok (.invokestatic 86, 3) := by decide +kernel
theorem dX12_word_50 : decode cX12_word 50 = .ok (.ifCond .eq 16, 3) := by decide +kernel
theorem dX12_word_53 : decode cX12_word 53 = .ok (.aload_n 0, 1) := by decide +kernel
theorem dX12_word_54 : decode cX12_word 54 = .ok (.dup, 1) := by decide +kernel
theorem dX12_word_55 : decode cX12_word 55 = .ok (.getfield 232, 3) := by decide +kernel
theorem dX12_word_58 : decode cX12_word 58 = .ok (.iconst 1, 1) := by decide +kernel
theorem dX12_word_59 : decode cX12_word 59 = .ok (.iadd, 1) := by decide +kernel
theorem dX12_word_60 : decode cX12_word 60 = .ok (.putfield 232, 3) := by decide +kernel
theorem dX12_word_63 : decode cX12_word 63 = .ok (.goto (-43), 3) := by decide +kernel
theorem dX12_word_66 : decode cX12_word 66 = .ok (.iconst 0, 1) := by decide +kernel
theorem dX12_word_67 : decode cX12_word 67 = .ok (.istore_n 1, 1) := by decide +kernel
theorem dX12_word_68 : decode cX12_word 68 = .ok (.iconst 0, 1) := by decide +kernel
theorem dX12_word_69 : decode cX12_word 69 = .ok (.istore_n 2, 1) := by decide +kernel
theorem dX12_word_70 : decode cX12_word 70 = .ok (.iload_n 2, 1) := by decide +kernel
theorem dX12_word_71 : decode cX12_word 71 = .ok (.bipush 10, 2) := by decide +kernel
theorem dX12_word_73 : decode cX12_word 73 = .ok (.if_icmp .ge 111, 3) := by decide +kernel
theorem dX12_word_76 : decode cX12_word 76 = .ok (.iload_n 1, 1) := by decide +kernel
theorem dX12_word_77 : decode cX12_word 77 = .ok (.istore_n 3, 1) := by decide +kernel
theorem dX12_word_78 : decode cX12_word 78 = .ok (.aload_n 0, 1) := by decide +kernel
theorem dX12_word_79 : decode cX12_word 79 = .ok (.getfield 41, 3) := by decide +kernel
theorem dX12_word_82 : decode cX12_word 82 = .ok (.iload_n 1, 1) := by decide +kernel
theorem dX12_word_83 : decode cX12_word 83 = .ok (.baload, 1) := by decide +kernel
theorem dX12_word_84 : decode cX12_word 84 = .ok (.ifCond .eq 9, 3) := by decide +kernel
theorem dX12_word_87 : decode cX12_word 87 = .ok (.iinc 1 1, 3) := by decide +kernel
theorem dX12_word_90 : decode cX12_word 90 = .ok (.goto (-12), 3) := by decide +kernel
theorem dX12_word_93 : decode cX12_word 93 = .ok (.iload_n 1, 1) := by decide +kernel
theorem dX12_word_94 : decode cX12_word 94 = .ok (.iload_n 3, 1) := by decide +kernel
theorem dX12_word_95 : decode cX12_word 95 = .ok (.isub, 1) := by decide +kernel
theorem dX12_word_96 : decode cX12_word 96 = .ok (.aload_n 0, 1) := by decide +kernel
theorem dX12_word_97 : decode cX12_word 97 = .ok (.getfield 232, 3) := by decide +kernel
theorem dX12_word_100 : decode cX12_word 100 = .ok (.aload_n 0, 1) := by decide +kernel
theorem dX12_word_101 : decode cX12_word 101 = .ok (.getfield 229, 3) := by decide +kernel
theorem dX12_word_104 : decode cX12_word 104 = .ok (.isub, 1) := by decide +kernel
theorem dX12_word_105 : decode cX12_word 105 = .ok (.if_icmp .ne 7, 3) := by decide +kernel
theorem dX12_word_108 : decode cX12_word 108 = .ok (.iconst 1, 1) := by decide +kernel
theorem dX12_word_109 : decode cX12_word 109 = .ok (.goto 4, 3) := by decide +kernel
theorem dX12_word_112 : decode cX12_word 112 = .ok (.iconst 0, 1) := by decide +kernel
theorem dX12_word_113 : decode cX12_word 113 = .ok (.istore 4, 2) := by decide +kernel
theorem dX12_word_115 : decode cX12_word 115 = .ok (.iconst 0, 1) := by decide +kernel
theorem dX12_word_116 : decode cX12_word 116 = .ok (.istore 5, 2) := by decide +kernel
theorem dX12_word_118 : decode cX12_word 118 = .ok (.iload 5, 2) := by decide +kernel
theorem dX12_word_120 : decode cX12_word 120 = .ok (.iload_n 1, 1) := by decide +kernel
theorem dX12_word_121 : decode cX12_word 121 = .ok (.iload_n 3, 1) := by decide +kernel
theorem dX12_word_122 : decode cX12_word 122 = .ok (.isub, 1) := by decide +kernel
theorem dX12_word_123 : decode cX12_word 123 = .ok (.if_icmp .ge 45, 3) := by decide +kernel
theorem dX12_word_126 : decode cX12_word 126 = .ok (.iload 4, 2) := by decide +kernel
theorem dX12_word_128 : decode cX12_word 128 = .ok (.ifCond .eq 40, 3) := by decide +kernel
theorem dX12_word_131 : decode cX12_word 131 = .ok (.aload_n 0, 1) := by decide +kernel
theorem dX12_word_132 : decode cX12_word 132 = .ok (.getfield 41, 3) := by decide +kernel
theorem dX12_word_135 : decode cX12_word 135 = .ok (.iload_n 3, 1) := by decide +kernel
theorem dX12_word_136 : decode cX12_word 136 = .ok (.iload 5, 2) := by decide +kernel
theorem dX12_word_138 : decode cX12_word 138 = .ok (.iadd, 1) := by decide +kernel
theorem dX12_word_139 : decode cX12_word 139 = .ok (.baload, 1) := by decide +kernel
theorem dX12_word_140 : decode cX12_word 140 = .ok (.aload_n 0, 1) := by decide +kernel
theorem dX12_word_141 : decode cX12_word 141 = .ok (.getfield 31, 3) := by decide +kernel
theorem dX12_word_144 : decode cX12_word 144 = .ok (.aload_n 0, 1) := by decide +kernel
theorem dX12_word_145 : decode cX12_word 145 = .ok (.getfield 229, 3) := by decide +kernel
theorem dX12_word_148 : decode cX12_word 148 = .ok (.iload 5, 2) := by decide +kernel
theorem dX12_word_150 : decode cX12_word 150 = .ok (.iadd, 1) := by decide +kernel
theorem dX12_word_151 : decode cX12_word 151 = .ok (.baload, 1) := by decide +kernel
theorem dX12_word_152 : decode cX12_word 152 = .ok (.if_icmp .ne 7, 3) := by decide +kernel
theorem dX12_word_155 : decode cX12_word 155 = .ok (.iconst 1, 1) := by decide +kernel
theorem dX12_word_156 : decode cX12_word 156 = .ok (.goto 4, 3) := by decide +kernel
theorem dX12_word_159 : decode cX12_word 159 = .ok (.iconst 0, 1) := by decide +kernel
theorem dX12_word_160 : decode cX12_word 160 = .ok (.istore 4, 2) := by decide +kernel
theorem dX12_word_162 : decode cX12_word 162 = .ok (.iinc 5 1, 3) := by decide +kernel
theorem dX12_word_165 : decode cX12_word 165 = .ok (.goto (-47), 3) := by decide +kernel
theorem dX12_word_168 : decode cX12_word 168 = .ok (.iload 4, 2) := by decide +kernel
theorem dX12_word_170 : decode cX12_word 170 = .ok (.ifCond .eq 5, 3) := by decide +kernel
theorem dX12_word_173 : decode cX12_word 173 = .ok (.iload_n 2, 1) := by decide +kernel
theorem dX12_word_174 : decode cX12_word 174 = .ok (.ireturn, 1) := by decide +kernel
theorem dX12_word_175 : decode cX12_word 175 = .ok (.iinc 1 1, 3) := by decide +kernel
theorem dX12_word_178 : decode cX12_word 178 = .ok (.iinc 2 1, 3) := by decide +kernel
theorem dX12_word_181 : decode cX12_word 181 = .ok (.goto (-111), 3) := by decide +kernel
theorem dX12_word_184 : decode cX12_word 184 = .ok (.bipush 10, 2) := by decide +kernel
theorem dX12_word_186 : decode cX12_word 186 = .ok (.ireturn, 1) := by decide +kernel
theorem dX12_passes_0 : decode cX12_passes 0 = .ok (.aload_n 0, 1) := by decide +kernel
theorem dX12_passes_1 : decode cX12_passes 1 = .ok (.getfield 223, 3) := by decide +kernel
theorem dX12_passes_4 : decode cX12_passes 4 = .ok (.ifCond .ne 11, 3) := by decide +kernel
theorem dX12_passes_7 : decode cX12_passes 7 = .ok (.aload_n 0, 1) := by decide +kernel
theorem dX12_passes_8 : decode cX12_passes 8 = .ok (.invokevirtual 239, 3) := by decide +kernel
theorem dX12_passes_11 : decode cX12_passes 11 = .ok (.iload_n 1, 1) := by decide +kernel
theorem dX12_passes_12 : decode cX12_passes 12 = .ok (.if_icmp .eq 5, 3) := by decide +kernel
theorem dX12_passes_15 : decode cX12_passes 15 = .ok (.iconst 0, 1) := by decide +kernel
theorem dX12_passes_16 : decode cX12_passes 16 = .ok (.ireturn, 1) := by decide +kernel
theorem dX12_passes_17 : decode cX12_passes 17 = .ok (.aload_n 0, 1) := by decide +kernel
theorem dX12_passes_18 : decode cX12_passes 18 = .ok (.aload_n 0, 1) := by decide +kernel
theorem dX12_passes_19 : decode cX12_passes 19 = .ok (.getfield 232, 3) := by decide +kernel
theorem dX12_passes_22 : decode cX12_passes 22 = .ok (.putfield 213, 3) := by decide +kernel
theorem dX12_passes_25 : decode cX12_passes 25 = .ok (.iconst 1, 1) := by decide +kernel
theorem dX12_passes_26 : decode cX12_passes 26 = .ok (.ireturn, 1) := by decide +kernel
theorem dX12_must_0 : decode cX12_must 0 = .ok (.aload_n 0, 1) := by decide +kernel
theorem dX12_must_1 : decode cX12_must 1 = .ok (.iload_n 1, 1) := by decide +kernel
theorem dX12_must_2 : decode cX12_must 2 = .ok (.invokevirtual 242, 3) := by decide +kernel
theorem dX12_must_5 : decode cX12_must 5 = .ok (.ifCond .ne 12, 3) := by decide +kernel
theorem dX12_must_8 : decode cX12_must 8 = .ok (.aload_n 0, 1) := by decide +kernel
theorem dX12_must_9 : decode cX12_must 9 = .ok (.iconst 1, 1) := by decide +kernel
theorem dX12_must_10 : decode cX12_must 10 = .ok (.aload_n 0, 1) := by decide +kernel
theorem dX12_must_11 : decode cX12_must 11 = .ok (.getfield 229, 3) := by decide +kernel
theorem dX12_must_14 : decode cX12_must 14 = .ok (.invokevirtual 245, 3) := by decide +kernel
theorem dX12_must_17 : decode cX12_must 17 = .ok (.return_, 1) := by decide +kernel
theorem dX12_isTold_0 : decode cX12_isTold 0 = .ok (.iconst 0, 1) := by decide +kernel
theorem dX12_isTold_1 : decode cX12_isTold 1 = .ok (.istore_n 2, 1) := by decide +kernel
theorem dX12_isTold_2 : decode cX12_isTold 2 = .ok (.iload_n 2, 1) := by decide +kernel
theorem dX12_isTold_3 : decode cX12_isTold 3 = .ok (.aload_n 0, 1) := by decide +kernel
theorem dX12_isTold_4 : decode cX12_isTold 4 = .ok (.getfield 38, 3) := by decide +kernel
theorem dX12_isTold_7 : decode cX12_isTold 7 = .ok (.iconst 5, 1) := by decide +kernel
theorem dX12_isTold_8 : decode cX12_isTold 8 = .ok (.iaload, 1) := by decide +kernel
theorem dX12_isTold_9 : decode cX12_isTold 9 = .ok (.if_icmp .ge 27, 3) := by decide +kernel
theorem dX12_isTold_12 : decode cX12_isTold 12 = .ok (.aload_n 0, 1) := by decide +kernel
theorem dX12_isTold_13 : decode cX12_isTold 13 = .ok (.getfield 38, 3) := by decide +kernel
theorem dX12_isTold_16 : decode cX12_isTold 16 = .ok (.bipush 6, 2) := by decide +kernel
theorem dX12_isTold_18 : decode cX12_isTold 18 = .ok (.iload_n 2, 1) := by decide +kernel
theorem dX12_isTold_19 : decode cX12_isTold 19 = .ok (.iadd, 1) := by decide +kernel
theorem dX12_isTold_20 : decode cX12_isTold 20 = .ok (.iaload, 1) := by decide +kernel
theorem dX12_isTold_21 : decode cX12_isTold 21 = .ok (.bipush 10, 2) := by decide +kernel
theorem dX12_isTold_23 : decode cX12_isTold 23 = .ok (.irem, 1) := by decide +kernel
theorem dX12_isTold_24 : decode cX12_isTold 24 = .ok (.iload_n 1, 1) := by decide +kernel
theorem dX12_isTold_25 : decode cX12_isTold 25 = .ok (.if_icmp .ne 5, 3) := by decide +kernel
theorem dX12_isTold_28 : decode cX12_isTold 28 = .ok (.iconst 1, 1) := by decide +kernel
theorem dX12_isTold_29 : decode cX12_isTold 29 = .ok (.ireturn, 1) := by decide +kernel
theorem dX12_isTold_30 : decode cX12_isTold 30 = .ok (.iinc 2 1, 3) := by decide +kernel
theorem dX12_isTold_33 : decode cX12_isTold 33 = .ok (.goto (-31), 3) := by decide +kernel
theorem dX12_isTold_36 : decode cX12_isTold 36 = .ok (.iconst 0, 1) := by decide +kernel
theorem dX12_isTold_37 : decode cX12_isTold 37 = .ok (.ireturn, 1) := by decide +kernel
theorem dX12_column_0 : decode cX12_column 0 = .ok (.aload_n 0, 1) := by decide +kernel
theorem dX12_column_1 : decode cX12_column 1 = .ok (.getfield 223, 3) := by decide +kernel
theorem dX12_column_4 : decode cX12_column 4 = .ok (.ifCond .eq 4, 3) := by decide +kernel
theorem dX12_column_7 : decode cX12_column 7 = .ok (.return_, 1) := by decide +kernel
theorem dX12_column_8 : decode cX12_column 8 = .ok (.aload_n 0, 1) := by decide +kernel
theorem dX12_column_9 : decode cX12_column 9 = .ok (.invokevirtual 239, 3) := by decide +kernel
theorem dX12_column_12 : decode cX12_column 12 = .ok (.iconst 4, 1) := by decide +kernel
theorem dX12_column_13 : decode cX12_column 13 = .ok (.isub, 1) := by decide +kernel
theorem dX12_column_14 : decode cX12_column 14 = .ok (.istore_n 1, 1) := by decide +kernel
theorem dX12_column_15 : decode cX12_column 15 = .ok (.iload_n 1, 1) := by decide +kernel
theorem dX12_column_16 : decode cX12_column 16 = .ok (.i2l, 1) := by decide +kernel
theorem dX12_column_17 : decode cX12_column 17 = .ok (.lconst 0, 1) := by decide +kernel
theorem dX12_column_18 : decode cX12_column 18 = .ok (.ldc2_w 248, 3) := by decide +kernel
theorem dX12_column_21 : decode cX12_column 21 = .ok (.invokestatic 86, 3) := by decide +kernel
theorem dX12_column_24 : decode cX12_column 24 = .ok (.ifCond .ne 15, 3) := by decide +kernel
theorem dX12_column_27 : decode cX12_column 27 = .ok (.aload_n 0, 1) := by decide +kernel
theorem dX12_column_28 : decode cX12_column 28 = .ok (.iconst 1, 1) := by decide +kernel
theorem dX12_column_29 : decode cX12_column 29 = .ok (.aload_n 0, 1) := by decide +kernel
theorem dX12_column_30 : decode cX12_column 30 = .ok (.getfield 229, 3) := by decide +kernel
theorem dX12_column_33 : decode cX12_column 33 = .ok (.invokevirtual 245, 3) := by decide +kernel
theorem dX12_column_36 : decode cX12_column 36 = .ok (.goto 20, 3) := by decide +kernel
theorem dX12_column_39 : decode cX12_column 39 = .ok (.aload_n 0, 1) := by decide +kernel
theorem dX12_column_40 : decode cX12_column 40 = .ok (.iload_n 1, 1) := by decide +kernel
theorem dX12_column_41 : decode cX12_column 41 = .ok (.invokevirtual 250, 3) := by decide +kernel
theorem dX12_column_44 : decode cX12_column 44 = .ok (.ifCond .eq 12, 3) := by decide +kernel
theorem dX12_column_47 : decode cX12_column 47 = .ok (.aload_n 0, 1) := by decide +kernel
theorem dX12_column_48 : decode cX12_column 48 = .ok (.iconst 3, 1) := by decide +kernel
theorem dX12_column_49 : decode cX12_column 49 = .ok (.aload_n 0, 1) := by decide +kernel
theorem dX12_column_50 : decode cX12_column 50 = .ok (.getfield 229, 3) := by decide +kernel
theorem dX12_column_53 : decode cX12_column 53 = .ok (.invokevirtual 245, 3) := by decide +kernel
theorem dX12_column_56 : decode cX12_column 56 = .ok (.aload_n 0, 1) := by decide +kernel
theorem dX12_column_57 : decode cX12_column 57 = .ok (.getfield 223, 3) := by decide +kernel
theorem dX12_column_60 : decode cX12_column 60 = .ok (.ifCond .eq 4, 3) := by decide +kernel
theorem dX12_column_63 : decode cX12_column 63 = .ok (.return_, 1) := by decide +kernel
theorem dX12_column_64 : decode cX12_column 64 = .ok (.aload_n 0, 1) := by decide +kernel
theorem dX12_column_65 : decode cX12_column 65 = .ok (.aload_n 0, 1) := by decide +kernel
theorem dX12_column_66 : decode cX12_column 66 = .ok (.getfield 232, 3) := by decide +kernel
theorem dX12_column_69 : decode cX12_column 69 = .ok (.putfield 213, 3) := by decide +kernel
theorem dX12_column_72 : decode cX12_column 72 = .ok (.aload_n 0, 1) := by decide +kernel
theorem dX12_column_73 : decode cX12_column 73 = .ok (.getfield 38, 3) := by decide +kernel
theorem dX12_column_76 : decode cX12_column 76 = .ok (.bipush 6, 2) := by decide +kernel
theorem dX12_column_78 : decode cX12_column 78 = .ok (.aload_n 0, 1) := by decide +kernel
theorem dX12_column_79 : decode cX12_column 79 = .ok (.getfield 38, 3) := by decide +kernel
theorem dX12_column_82 : decode cX12_column 82 = .ok (.iconst 5, 1) := by decide +kernel
theorem dX12_column_83 : decode cX12_column 83 = .ok (.iaload, 1) := by decide +kernel
theorem dX12_column_84 : decode cX12_column 84 = .ok (.iadd, 1) := by decide +kernel
theorem dX12_column_85 : decode cX12_column 85 = .ok (.iload_n 1, 1) := by decide +kernel
theorem dX12_column_86 : decode cX12_column 86 = .ok (.aload_n 0, 1) := by decide +kernel
theorem dX12_column_87 : decode cX12_column 87 = .ok (.iconst 1, 1) := by decide +kernel
theorem dX12_column_88 : decode cX12_column 88 = .ok (.invokevirtual 242, 3) := by decide +kernel
theorem dX12_column_91 : decode cX12_column 91 = .ok (.ifCond .eq 8, 3) := by decide +kernel
theorem dX12_column_94 : decode cX12_column 94 = .ok (.bipush 10, 2) := by decide +kernel
theorem dX12_column_96 : decode cX12_column 96 = .ok (.goto 4, 3) := by decide +kernel
theorem dX12_column_99 : decode cX12_column 99 = .ok (.iconst 0, 1) := by decide +kernel
theorem dX12_column_100 : decode cX12_column 100 = .ok (.iadd, 1) := by decide +kernel
theorem dX12_column_101 : decode cX12_column 101 = .ok (.iastore, 1) := by decide +kernel
theorem dX12_column_102 : decode cX12_column 102 = .ok (.aload_n 0, 1) := by decide +kernel
theorem dX12_column_103 : decode cX12_column 103 = .ok (.getfield 38, 3) := by decide +kernel
theorem dX12_column_106 : decode cX12_column 106 = .ok (.iconst 5, 1) := by decide +kernel
theorem dX12_column_107 : decode cX12_column 107 = .ok (.dup2, 1) := by decide +kernel
theorem dX12_column_108 : decode cX12_column 108 = .ok (.iaload, 1) := by decide +kernel
theorem dX12_column_109 : decode cX12_column 109 = .ok (.iconst 1, 1) := by decide +kernel
theorem dX12_column_110 : decode cX12_column 110 = .ok (.iadd, 1) := by decide +kernel
theorem dX12_column_111 : decode cX12_column 111 = .ok (.iastore, 1) := by decide +kernel
theorem dX12_column_112 : decode cX12_column 112 = .ok (.return_, 1) := by decide +kernel
theorem dX12_opOf_0 : decode cX12_opOf 0 = .ok (.iload_n 0, 1) := by decide +kernel
theorem dX12_opOf_1 : decode cX12_opOf 1 = .ok (.bipush 61, 2) := by decide +kernel
theorem dX12_opOf_3 : decode cX12_opOf 3 = .ok (.if_icmp .ne 7, 3) := by decide +kernel
theorem dX12_opOf_6 : decode cX12_opOf 6 = .ok (.iconst 0, 1) := by decide +kernel
theorem dX12_opOf_7 : decode cX12_opOf 7 = .ok (.goto 34, 3) := by decide +kernel
theorem dX12_opOf_10 : decode cX12_opOf 10 = .ok (.iload_n 0, 1) := by decide +kernel
theorem dX12_opOf_11 : decode cX12_opOf 11 = .ok (.bipush 33, 2) := by decide +kernel
theorem dX12_opOf_13 : decode cX12_opOf 13 = .ok (.if_icmp .ne 7, 3) := by decide +kernel
theorem dX12_opOf_16 : decode cX12_opOf 16 = .ok (.iconst 1, 1) := by decide +kernel
theorem dX12_opOf_17 : decode cX12_opOf 17 = .ok (.goto 24, 3) := by decide +kernel
theorem dX12_opOf_20 : decode cX12_opOf 20 = .ok (.iload_n 0, 1) := by decide +kernel
theorem dX12_opOf_21 : decode cX12_opOf 21 = .ok (.bipush 60, 2) := by decide +kernel
theorem dX12_opOf_23 : decode cX12_opOf 23 = .ok (.if_icmp .ne 7, 3) := by decide +kernel
theorem dX12_opOf_26 : decode cX12_opOf 26 = .ok (.iconst 2, 1) := by decide +kernel
theorem dX12_opOf_27 : decode cX12_opOf 27 = .ok (.goto 14, 3) := by decide +kernel
theorem dX12_opOf_30 : decode cX12_opOf 30 = .ok (.iload_n 0, 1) := by decide +kernel
theorem dX12_opOf_31 : decode cX12_opOf 31 = .ok (.bipush 62, 2) := by decide +kernel
theorem dX12_opOf_33 : decode cX12_opOf 33 = .ok (.if_icmp .ne 7, 3) := by decide +kernel
theorem dX12_opOf_36 : decode cX12_opOf 36 = .ok (.iconst 3, 1) := by decide +kernel
theorem dX12_opOf_37 : decode cX12_opOf 37 = .ok (.goto 4, 3) := by decide +kernel
theorem dX12_opOf_40 : decode cX12_opOf 40 = .ok (.iconst (-1), 1) := by decide +kernel
theorem dX12_opOf_41 : decode cX12_opOf 41 = .ok (.ireturn, 1) := by decide +kernel
theorem dX12_cond_0 : decode cX12_cond 0 = .ok (.aload_n 0, 1) := by decide +kernel
theorem dX12_cond_1 : decode cX12_cond 1 = .ok (.invokevirtual 239, 3) := by decide +kernel
theorem dX12_cond_4 : decode cX12_cond 4 = .ok (.iconst 4, 1) := by decide +kernel
theorem dX12_cond_5 : decode cX12_cond 5 = .ok (.isub, 1) := by decide +kernel
theorem dX12_cond_6 : decode cX12_cond 6 = .ok (.istore_n 2, 1) := by decide +kernel
theorem dX12_cond_7 : decode cX12_cond 7 = .ok (.iload_n 2, 1) := by decide +kernel
theorem dX12_cond_8 : decode cX12_cond 8 = .ok (.i2l, 1) := by decide +kernel
theorem dX12_cond_9 : decode cX12_cond 9 = .ok (.lconst 0, 1) := by decide +kernel
theorem dX12_cond_10 : decode cX12_cond 10 = .ok (.ldc2_w 248, 3) := by decide +kernel
theorem dX12_cond_13 : decode cX12_cond 13 = .ok (.invokestatic 86, 3) := by decide +kernel
theorem dX12_cond_16 : decode cX12_cond 16 = .ok (.ifCond .ne 15, 3) := by decide +kernel
theorem dX12_cond_19 : decode cX12_cond 19 = .ok (.aload_n 0, 1) := by decide +kernel
theorem dX12_cond_20 : decode cX12_cond 20 = .ok (.iconst 1, 1) := by decide +kernel
theorem dX12_cond_21 : decode cX12_cond 21 = .ok (.aload_n 0, 1) := by decide +kernel
theorem dX12_cond_22 : decode cX12_cond 22 = .ok (.getfield 229, 3) := by decide +kernel
theorem dX12_cond_25 : decode cX12_cond 25 = .ok (.invokevirtual 245, 3) := by decide +kernel
theorem dX12_cond_28 : decode cX12_cond 28 = .ok (.goto 16, 3) := by decide +kernel
theorem dX12_cond_31 : decode cX12_cond 31 = .ok (.iload_n 1, 1) := by decide +kernel
theorem dX12_cond_32 : decode cX12_cond 32 = .ok (.ifCond .eq 12, 3) := by decide +kernel
theorem dX12_cond_35 : decode cX12_cond 35 = .ok (.aload_n 0, 1) := by decide +kernel
theorem dX12_cond_36 : decode cX12_cond 36 = .ok (.iconst 4, 1) := by decide +kernel
theorem dX12_cond_37 : decode cX12_cond 37 = .ok (.aload_n 0, 1) := by decide +kernel
theorem dX12_cond_38 : decode cX12_cond 38 = .ok (.getfield 229, 3) := by decide +kernel
theorem dX12_cond_41 : decode cX12_cond 41 = .ok (.invokevirtual 245, 3) := by decide +kernel
theorem dX12_cond_44 : decode cX12_cond 44 = .ok (.aload_n 0, 1) := by decide +kernel
theorem dX12_cond_45 : decode cX12_cond 45 = .ok (.getfield 223, 3) := by decide +kernel
theorem dX12_cond_48 : decode cX12_cond 48 = .ok (.ifCond .eq 4, 3) := by decide +kernel
theorem dX12_cond_51 : decode cX12_cond 51 = .ok (.return_, 1) := by decide +kernel
theorem dX12_cond_52 : decode cX12_cond 52 = .ok (.aload_n 0, 1) := by decide +kernel
theorem dX12_cond_53 : decode cX12_cond 53 = .ok (.aload_n 0, 1) := by decide +kernel
theorem dX12_cond_54 : decode cX12_cond 54 = .ok (.getfield 232, 3) := by decide +kernel
theorem dX12_cond_57 : decode cX12_cond 57 = .ok (.putfield 213, 3) := by decide +kernel
theorem dX12_cond_60 : decode cX12_cond 60 = .ok (.aload_n 0, 1) := by decide +kernel
theorem dX12_cond_61 : decode cX12_cond 61 = .ok (.iload_n 2, 1) := by decide +kernel
theorem dX12_cond_62 : decode cX12_cond 62 = .ok (.putfield 253, 3) := by decide +kernel
theorem dX12_cond_65 : decode cX12_cond 65 = .ok (.aload_n 0, 1) := by decide +kernel
theorem dX12_cond_66 : decode cX12_cond 66 = .ok (.invokevirtual 226, 3) := by decide +kernel
theorem dX12_cond_69 : decode cX12_cond 69 = .ok (.aload_n 0, 1) := by decide +kernel
theorem dX12_cond_70 : decode cX12_cond 70 = .ok (.aload_n 0, 1) := by decide +kernel
theorem dX12_cond_71 : decode cX12_cond 71 = .ok (.invokevirtual 219, 3) := by decide +kernel
theorem dX12_cond_74 : decode cX12_cond 74 = .ok (.invokestatic 256, 3) := by decide +kernel
theorem dX12_cond_77 : decode cX12_cond 77 = .ok (.putfield 259, 3) := by decide +kernel
theorem dX12_cond_80 : decode cX12_cond 80 = .ok (.aload_n 0, 1) := by decide +kernel
theorem dX12_cond_81 : decode cX12_cond 81 = .ok (.getfield 259, 3) := by decide +kernel
theorem dX12_cond_84 : decode cX12_cond 84 = .ok (.iconst (-1), 1) := by decide +kernel
theorem dX12_cond_85 : decode cX12_cond 85 = .ok (.if_icmp .ne 12, 3) := by decide +kernel
theorem dX12_cond_88 : decode cX12_cond 88 = .ok (.aload_n 0, 1) := by decide +kernel
theorem dX12_cond_89 : decode cX12_cond 89 = .ok (.iconst 1, 1) := by decide +kernel
theorem dX12_cond_90 : decode cX12_cond 90 = .ok (.aload_n 0, 1) := by decide +kernel
theorem dX12_cond_91 : decode cX12_cond 91 = .ok (.getfield 213, 3) := by decide +kernel
theorem dX12_cond_94 : decode cX12_cond 94 = .ok (.invokevirtual 245, 3) := by decide +kernel
theorem dX12_cond_97 : decode cX12_cond 97 = .ok (.aload_n 0, 1) := by decide +kernel
theorem dX12_cond_98 : decode cX12_cond 98 = .ok (.dup, 1) := by decide +kernel
theorem dX12_cond_99 : decode cX12_cond 99 = .ok (.getfield 213, 3) := by decide +kernel
theorem dX12_cond_102 : decode cX12_cond 102 = .ok (.iconst 1, 1) := by decide +kernel
theorem dX12_cond_103 : decode cX12_cond 103 = .ok (.iadd, 1) := by decide +kernel
theorem dX12_cond_104 : decode cX12_cond 104 = .ok (.putfield 213, 3) := by decide +kernel
theorem dX12_cond_107 : decode cX12_cond 107 = .ok (.aload_n 0, 1) := by decide +kernel
theorem dX12_cond_108 : decode cX12_cond 108 = .ok (.invokevirtual 226, 3) := by decide +kernel
theorem dX12_cond_111 : decode cX12_cond 111 = .ok (.aload_n 0, 1) := by decide +kernel
theorem dX12_cond_112 : decode cX12_cond 112 = .ok (.getfield 213, 3) := by decide +kernel
theorem dX12_cond_115 : decode cX12_cond 115 = .ok (.istore_n 3, 1) := by decide +kernel
theorem dX12_cond_116 : decode cX12_cond 116 = .ok (.iconst 0, 1) := by decide +kernel
theorem dX12_cond_117 : decode cX12_cond 117 = .ok (.istore 4, 2) := by decide +kernel
theorem dX12_cond_119 : decode cX12_cond 119 = .ok (.aload_n 0, 1) := by decide +kernel
theorem dX12_cond_120 : decode cX12_cond 120 = .ok (.invokevirtual 219, 3) := by decide +kernel
theorem dX12_cond_123 : decode cX12_cond 123 = .ok (.i2l, 1) := by decide +kernel
theorem dX12_cond_124 : decode cX12_cond 124 = .ok (.ldc2_w 262, 3) := by decide +kernel
theorem dX12_cond_127 : decode cX12_cond 127 = .ok (.ldc2_w 264, 3) := by decide +kernel
theorem dX12_cond_130 : decode cX12_cond 130 = .ok (.invokestatic 86, 3) := by decide +kernel
theorem dX12_cond_133 : decode cX12_cond 133 = .ok (.ifCond .eq 43, 3) := by decide +kernel
theorem dX12_cond_136 : decode cX12_cond 136 = .ok (.iload 4, 2) := by decide +kernel
theorem dX12_cond_138 : decode cX12_cond 138 = .ok (.bipush 99, 2) := by decide +kernel
theorem dX12_cond_140 : decode cX12_cond 140 = .ok (.if_icmp .le 8, 3) := by decide +kernel
theorem dX12_cond_143 : decode cX12_cond 143 = .ok (.iload 4, 2) := by decide +kernel
theorem dX12_cond_145 : decode cX12_cond 145 = .ok (.goto 16, 3) := by decide +kernel
theorem dX12_cond_148 : decode cX12_cond 148 = .ok (.bipush 10, 2) := by decide +kernel
theorem dX12_cond_150 : decode cX12_cond 150 = .ok (.iload 4, 2) := by decide +kernel
theorem dX12_cond_152 : decode cX12_cond 152 = .ok (.imul, 1) := by decide +kernel
theorem dX12_cond_153 : decode cX12_cond 153 = .ok (.aload_n 0, 1) := by decide +kernel
theorem dX12_cond_154 : decode cX12_cond 154 = .ok (.invokevirtual 219, 3) := by decide +kernel
theorem dX12_cond_157 : decode cX12_cond 157 = .ok (.iadd, 1) := by decide +kernel
theorem dX12_cond_158 : decode cX12_cond 158 = .ok (.bipush 48, 2) := by decide +kernel
theorem dX12_cond_160 : decode cX12_cond 160 = .ok (.isub, 1) := by decide +kernel
theorem dX12_cond_161 : decode cX12_cond 161 = .ok (.istore 4, 2) := by decide +kernel
theorem dX12_cond_163 : decode cX12_cond 163 = .ok (.aload_n 0, 1) := by decide +kernel
theorem dX12_cond_164 : decode cX12_cond 164 = .ok (.dup, 1) := by decide +kernel
theorem dX12_cond_165 : decode cX12_cond 165 = .ok (.getfield 213, 3) := by decide +kernel
theorem dX12_cond_168 : decode cX12_cond 168 = .ok (.iconst 1, 1) := by decide +kernel
theorem dX12_cond_169 : decode cX12_cond 169 = .ok (.iadd, 1) := by decide +kernel
theorem dX12_cond_170 : decode cX12_cond 170 = .ok (.putfield 213, 3) := by decide +kernel
theorem dX12_cond_173 : decode cX12_cond 173 = .ok (.goto (-54), 3) := by decide +kernel
theorem dX12_cond_176 : decode cX12_cond 176 = .ok (.aload_n 0, 1) := by decide +kernel
theorem dX12_cond_177 : decode cX12_cond 177 = .ok (.getfield 213, 3) := by decide +kernel
theorem dX12_cond_180 : decode cX12_cond 180 = .ok (.iload_n 3, 1) := by decide +kernel
theorem dX12_cond_181 : decode cX12_cond 181 = .ok (.if_icmp .ne 9, 3) := by decide +kernel
theorem dX12_cond_184 : decode cX12_cond 184 = .ok (.aload_n 0, 1) := by decide +kernel
theorem dX12_cond_185 : decode cX12_cond 185 = .ok (.iconst 1, 1) := by decide +kernel
theorem dX12_cond_186 : decode cX12_cond 186 = .ok (.iload_n 3, 1) := by decide +kernel
theorem dX12_cond_187 : decode cX12_cond 187 = .ok (.invokevirtual 245, 3) := by decide +kernel
theorem dX12_cond_190 : decode cX12_cond 190 = .ok (.aload_n 0, 1) := by decide +kernel
theorem dX12_cond_191 : decode cX12_cond 191 = .ok (.getfield 213, 3) := by decide +kernel
theorem dX12_cond_194 : decode cX12_cond 194 = .ok (.iload_n 3, 1) := by decide +kernel
theorem dX12_cond_195 : decode cX12_cond 195 = .ok (.iconst 2, 1) := by decide +kernel
theorem dX12_cond_196 : decode cX12_cond 196 = .ok (.iadd, 1) := by decide +kernel
theorem dX12_cond_197 : decode cX12_cond 197 = .ok (.if_icmp .le 9, 3) := by decide +kernel
theorem dX12_cond_200 : decode cX12_cond 200 = .ok (.aload_n 0, 1) := by decide +kernel
theorem dX12_cond_201 : decode cX12_cond 201 = .ok (.iconst 2, 1) := by decide +kernel
theorem dX12_cond_202 : decode cX12_cond 202 = .ok (.iload_n 3, 1) := by decide +kernel
theorem dX12_cond_203 : decode cX12_cond 203 = .ok (.invokevirtual 245, 3) := by decide +kernel
theorem dX12_cond_206 : decode cX12_cond 206 = .ok (.aload_n 0, 1) := by decide +kernel
theorem dX12_cond_207 : decode cX12_cond 207 = .ok (.iload 4, 2) := by decide +kernel
theorem dX12_cond_209 : decode cX12_cond 209 = .ok (.putfield 266, 3) := by decide +kernel
theorem dX12_cond_212 : decode cX12_cond 212 = .ok (.return_, 1) := by decide +kernel
theorem dX12_where_0 : decode cX12_where 0 = .ok (.aload_n 0, 1) := by decide +kernel
theorem dX12_where_1 : decode cX12_where 1 = .ok (.iconst 0, 1) := by decide +kernel
theorem dX12_where_2 : decode cX12_where 2 = .ok (.invokevirtual 269, 3) := by decide +kernel
theorem dX12_where_5 : decode cX12_where 5 = .ok (.aload_n 0, 1) := by decide +kernel
theorem dX12_where_6 : decode cX12_where 6 = .ok (.getfield 38, 3) := by decide +kernel
theorem dX12_where_9 : decode cX12_where 9 = .ok (.bipush 9, 2) := by decide +kernel
theorem dX12_where_11 : decode cX12_where 11 = .ok (.aload_n 0, 1) := by decide +kernel
theorem dX12_where_12 : decode cX12_where 12 = .ok (.getfield 253, 3) := by decide +kernel
theorem dX12_where_15 : decode cX12_where 15 = .ok (.iastore, 1) := by decide +kernel
theorem dX12_where_16 : decode cX12_where 16 = .ok (.aload_n 0, 1) := by decide +kernel
theorem dX12_where_17 : decode cX12_where 17 = .ok (.getfield 38, 3) := by decide +kernel
theorem dX12_where_20 : decode cX12_where 20 = .ok (.bipush 10, 2) := by decide +kernel
theorem dX12_where_22 : decode cX12_where 22 = .ok (.aload_n 0, 1) := by decide +kernel
theorem dX12_where_23 : decode cX12_where 23 = .ok (.getfield 259, 3) := by decide +kernel
theorem dX12_where_26 : decode cX12_where 26 = .ok (.iastore, 1) := by decide +kernel
theorem dX12_where_27 : decode cX12_where 27 = .ok (.aload_n 0, 1) := by decide +kernel
theorem dX12_where_28 : decode cX12_where 28 = .ok (.getfield 38, 3) := by decide +kernel
theorem dX12_where_31 : decode cX12_where 31 = .ok (.bipush 11, 2) := by decide +kernel
theorem dX12_where_33 : decode cX12_where 33 = .ok (.aload_n 0, 1) := by decide +kernel
theorem dX12_where_34 : decode cX12_where 34 = .ok (.getfield 266, 3) := by decide +kernel
theorem dX12_where_37 : decode cX12_where 37 = .ok (.iastore, 1) := by decide +kernel
theorem dX12_where_38 : decode cX12_where 38 = .ok (.return_, 1) := by decide +kernel
theorem dX12_definition_0 : decode cX12_definition 0 = .ok (.iconst 0, 1) := by decide +kernel
theorem dX12_definition_1 : decode cX12_definition 1 = .ok (.istore_n 1, 1) := by decide +kernel
theorem dX12_definition_2 : decode cX12_definition 2 = .ok (.iload_n 1, 1) := by decide +kernel
theorem dX12_definition_3 : decode cX12_definition 3 = .ok (.bipush 13, 2) := by decide +kernel
theorem dX12_definition_5 : decode cX12_definition 5 = .ok (.if_icmp .ge 16, 3) := by decide +kernel
theorem dX12_definition_8 : decode cX12_definition 8 = .ok (.aload_n 0, 1) := by decide +kernel
theorem dX12_definition_9 : decode cX12_definition 9 = .ok (.getfield 38, 3) := by decide +kernel
theorem dX12_definition_12 : decode cX12_definition 12 = .ok (.iload_n 1, 1) := by decide +kernel
theorem dX12_definition_13 : decode cX12_definition 13 = .ok (.iconst 0, 1) := by decide +kernel
theorem dX12_definition_14 : decode cX12_definition 14 = .ok (.iastore, 1) := by decide +kernel
theorem dX12_definition_15 : decode cX12_definition 15 = .ok (.iinc 1 1, 3) := by decide +kernel
theorem dX12_definition_18 : decode cX12_definition 18 = .ok (.goto (-16), 3) := by decide +kernel
theorem dX12_definition_21 : decode cX12_definition 21 = .ok (.iconst 0, 1) := by decide +kernel
theorem dX12_definition_22 : decode cX12_definition 22 = .ok (.istore_n 1, 1) := by decide +kernel
theorem dX12_definition_23 : decode cX12_definition 23 = .ok (.iload_n 1, 1) := by decide +kernel
theorem dX12_definition_24 : decode cX12_definition 24 = .ok (.iconst 3, 1) := by decide +kernel
theorem dX12_definition_25 : decode cX12_definition 25 = .ok (.if_icmp .ge 19, 3) := by decide +kernel
theorem dX12_definition_28 : decode cX12_definition 28 = .ok (.aload_n 0, 1) := by decide +kernel
theorem dX12_definition_29 : decode cX12_definition 29 = .ok (.getfield 38, 3) := by decide +kernel
theorem dX12_definition_32 : decode cX12_definition 32 = .ok (.bipush 6, 2) := by decide +kernel
theorem dX12_definition_34 : decode cX12_definition 34 = .ok (.iload_n 1, 1) := by decide +kernel
theorem dX12_definition_35 : decode cX12_definition 35 = .ok (.iadd, 1) := by decide +kernel
theorem dX12_definition_36 : decode cX12_definition 36 = .ok (.iconst (-1), 1) := by decide +kernel
theorem dX12_definition_37 : decode cX12_definition 37 = .ok (.iastore, 1) := by decide +kernel
theorem dX12_definition_38 : decode cX12_definition 38 = .ok (.iinc 1 1, 3) := by decide +kernel
theorem dX12_definition_41 : decode cX12_definition 41 = .ok (.goto (-18), 3) := by decide +kernel
theorem dX12_definition_44 : decode cX12_definition 44 = .ok (.aload_n 0, 1) := by decide +kernel
theorem dX12_definition_45 : decode cX12_definition 45 = .ok (.getfield 38, 3) := by decide +kernel
theorem dX12_definition_48 : decode cX12_definition 48 = .ok (.bipush 9, 2) := by decide +kernel
theorem dX12_definition_50 : decode cX12_definition 50 = .ok (.iconst (-1), 1) := by decide +kernel
theorem dX12_definition_51 : decode cX12_definition 51 = .ok (.iastore, 1) := by decide +kernel
theorem dX12_definition_52 : decode cX12_definition 52 = .ok (.aload_n 0, 1) := by decide +kernel
theorem dX12_definition_53 : decode cX12_definition 53 = .ok (.iconst 0, 1) := by decide +kernel
theorem dX12_definition_54 : decode cX12_definition 54 = .ok (.invokevirtual 273, 3) := by decide +kernel
theorem dX12_definition_57 : decode cX12_definition 57 = .ok (.aload_n 0, 1) := by decide +kernel
theorem dX12_definition_58 : decode cX12_definition 58 = .ok (.invokevirtual 276, 3) := by decide +kernel
theorem dX12_definition_61 : decode cX12_definition 61 = .ok (.aload_n 0, 1) := by decide +kernel
theorem dX12_definition_62 : decode cX12_definition 62 = .ok (.invokevirtual 226, 3) := by decide +kernel
theorem dX12_definition_65 : decode cX12_definition 65 = .ok (.aload_n 0, 1) := by decide +kernel
theorem dX12_definition_66 : decode cX12_definition 66 = .ok (.getfield 223, 3) := by decide +kernel
theorem dX12_definition_69 : decode cX12_definition 69 = .ok (.ifCond .ne 33, 3) := by decide +kernel
theorem dX12_definition_72 : decode cX12_definition 72 = .ok (.aload_n 0, 1) := by decide +kernel
theorem dX12_definition_73 : decode cX12_definition 73 = .ok (.invokevirtual 219, 3) := by decide +kernel
theorem dX12_definition_76 : decode cX12_definition 76 = .ok (.bipush 44, 2) := by decide +kernel
theorem dX12_definition_78 : decode cX12_definition 78 = .ok (.if_icmp .ne 24, 3) := by decide +kernel
theorem dX12_definition_81 : decode cX12_definition 81 = .ok (.aload_n 0, 1) := by decide +kernel
theorem dX12_definition_82 : decode cX12_definition 82 = .ok (.dup, 1) := by decide +kernel
theorem dX12_definition_83 : decode cX12_definition 83 = .ok (.getfield 213, 3) := by decide +kernel
theorem dX12_definition_86 : decode cX12_definition 86 = .ok (.iconst 1, 1) := by decide +kernel
theorem dX12_definition_87 : decode cX12_definition 87 = .ok (.iadd, 1) := by decide +kernel
theorem dX12_definition_88 : decode cX12_definition 88 = .ok (.putfield 213, 3) := by decide +kernel
theorem dX12_definition_91 : decode cX12_definition 91 = .ok (.aload_n 0, 1) := by decide +kernel
theorem dX12_definition_92 : decode cX12_definition 92 = .ok (.invokevirtual 276, 3) := by decide +kernel
theorem dX12_definition_95 : decode cX12_definition 95 = .ok (.aload_n 0, 1) := by decide +kernel
theorem dX12_definition_96 : decode cX12_definition 96 = .ok (.invokevirtual 226, 3) := by decide +kernel
theorem dX12_definition_99 : decode cX12_definition 99 = .ok (.goto (-34), 3) := by decide +kernel
theorem dX12_definition_102 : decode cX12_definition 102 = .ok (.aload_n 0, 1) := by decide +kernel
theorem dX12_definition_103 : decode cX12_definition 103 = .ok (.iconst 2, 1) := by decide +kernel
theorem dX12_definition_104 : decode cX12_definition 104 = .ok (.invokevirtual 242, 3) := by decide +kernel
theorem dX12_definition_107 : decode cX12_definition 107 = .ok (.ifCond .eq 10, 3) := by decide +kernel
theorem dX12_definition_110 : decode cX12_definition 110 = .ok (.aload_n 0, 1) := by decide +kernel
theorem dX12_definition_111 : decode cX12_definition 111 = .ok (.getfield 38, 3) := by decide +kernel
theorem dX12_definition_114 : decode cX12_definition 114 = .ok (.iconst 4, 1) := by decide +kernel
theorem dX12_definition_115 : decode cX12_definition 115 = .ok (.iconst 1, 1) := by decide +kernel
theorem dX12_definition_116 : decode cX12_definition 116 = .ok (.iastore, 1) := by decide +kernel
theorem dX12_definition_117 : decode cX12_definition 117 = .ok (.aload_n 0, 1) := by decide +kernel
theorem dX12_definition_118 : decode cX12_definition 118 = .ok (.iconst 3, 1) := by decide +kernel
theorem dX12_definition_119 : decode cX12_definition 119 = .ok (.invokevirtual 242, 3) := by decide +kernel
theorem dX12_definition_122 : decode cX12_definition 122 = .ok (.ifCond .eq 7, 3) := by decide +kernel
theorem dX12_definition_125 : decode cX12_definition 125 = .ok (.aload_n 0, 1) := by decide +kernel
theorem dX12_definition_126 : decode cX12_definition 126 = .ok (.invokevirtual 279, 3) := by decide +kernel
theorem dX12_definition_129 : decode cX12_definition 129 = .ok (.aload_n 0, 1) := by decide +kernel
theorem dX12_definition_130 : decode cX12_definition 130 = .ok (.invokevirtual 226, 3) := by decide +kernel
theorem dX12_definition_133 : decode cX12_definition 133 = .ok (.aload_n 0, 1) := by decide +kernel
theorem dX12_definition_134 : decode cX12_definition 134 = .ok (.getfield 213, 3) := by decide +kernel
theorem dX12_definition_137 : decode cX12_definition 137 = .ok (.aload_n 0, 1) := by decide +kernel
theorem dX12_definition_138 : decode cX12_definition 138 = .ok (.getfield 216, 3) := by decide +kernel
theorem dX12_definition_141 : decode cX12_definition 141 = .ok (.if_icmp .ge 12, 3) := by decide +kernel
theorem dX12_definition_144 : decode cX12_definition 144 = .ok (.aload_n 0, 1) := by decide +kernel
theorem dX12_definition_145 : decode cX12_definition 145 = .ok (.iconst 1, 1) := by decide +kernel
theorem dX12_definition_146 : decode cX12_definition 146 = .ok (.aload_n 0, 1) := by decide +kernel
theorem dX12_definition_147 : decode cX12_definition 147 = .ok (.getfield 213, 3) := by decide +kernel
theorem dX12_definition_150 : decode cX12_definition 150 = .ok (.invokevirtual 245, 3) := by decide +kernel
theorem dX12_definition_153 : decode cX12_definition 153 = .ok (.return_, 1) := by decide +kernel
theorem dX12_nextCond_0 : decode cX12_nextCond 0 = .ok (.aload_n 0, 1) := by decide +kernel
theorem dX12_nextCond_1 : decode cX12_nextCond 1 = .ok (.aload_n 0, 1) := by decide +kernel
theorem dX12_nextCond_2 : decode cX12_nextCond 2 = .ok (.getfield 282, 3) := by decide +kernel
theorem dX12_nextCond_5 : decode cX12_nextCond 5 = .ok (.iconst 4, 1) := by decide +kernel
theorem dX12_nextCond_6 : decode cX12_nextCond 6 = .ok (.if_icmp .ne 7, 3) := by decide +kernel
theorem dX12_nextCond_9 : decode cX12_nextCond 9 = .ok (.iconst 1, 1) := by decide +kernel
theorem dX12_nextCond_10 : decode cX12_nextCond 10 = .ok (.goto 4, 3) := by decide +kernel
theorem dX12_nextCond_13 : decode cX12_nextCond 13 = .ok (.iconst 0, 1) := by decide +kernel
theorem dX12_nextCond_14 : decode cX12_nextCond 14 = .ok (.invokevirtual 269, 3) := by decide +kernel
theorem dX12_nextCond_17 : decode cX12_nextCond 17 = .ok (.aload_n 0, 1) := by decide +kernel
theorem dX12_nextCond_18 : decode cX12_nextCond 18 = .ok (.getfield 223, 3) := by decide +kernel
theorem dX12_nextCond_21 : decode cX12_nextCond 21 = .ok (.ifCond .eq 4, 3) := by decide +kernel
theorem dX12_nextCond_24 : decode cX12_nextCond 24 = .ok (.return_, 1) := by decide +kernel
theorem dX12_nextCond_25 : decode cX12_nextCond 25 = .ok (.aload_n 0, 1) := by decide +kernel
theorem dX12_nextCond_26 : decode cX12_nextCond 26 = .ok (.getfield 50, 3) := by decide +kernel
theorem dX12_nextCond_29 : decode cX12_nextCond 29 = .ok (.iconst 3, 1) := by decide +kernel
theorem dX12_nextCond_30 : decode cX12_nextCond 30 = .ok (.aload_n 0, 1) := by decide +kernel
theorem dX12_nextCond_31 : decode cX12_nextCond 31 = .ok (.getfield 282, 3) := by decide +kernel
theorem dX12_nextCond_34 : decode cX12_nextCond 34 = .ok (.imul, 1) := by decide +kernel
theorem dX12_nextCond_35 : decode cX12_nextCond 35 = .ok (.aload_n 0, 1) := by decide +kernel
theorem dX12_nextCond_36 : decode cX12_nextCond 36 = .ok (.getfield 253, 3) := by decide +kernel
theorem dX12_nextCond_39 : decode cX12_nextCond 39 = .ok (.iastore, 1) := by decide +kernel
theorem dX12_nextCond_40 : decode cX12_nextCond 40 = .ok (.aload_n 0, 1) := by decide +kernel
theorem dX12_nextCond_41 : decode cX12_nextCond 41 = .ok (.getfield 50, 3) := by decide +kernel
theorem dX12_nextCond_44 : decode cX12_nextCond 44 = .ok (.iconst 3, 1) := by decide +kernel
theorem dX12_nextCond_45 : decode cX12_nextCond 45 = .ok (.aload_n 0, 1) := by decide +kernel
theorem dX12_nextCond_46 : decode cX12_nextCond 46 = .ok (.getfield 282, 3) := by decide +kernel
theorem dX12_nextCond_49 : decode cX12_nextCond 49 = .ok (.imul, 1) := by decide +kernel
theorem dX12_nextCond_50 : decode cX12_nextCond 50 = .ok (.iconst 1, 1) := by decide +kernel
theorem dX12_nextCond_51 : decode cX12_nextCond 51 = .ok (.iadd, 1) := by decide +kernel
theorem dX12_nextCond_52 : decode cX12_nextCond 52 = .ok (.aload_n 0, 1) := by decide +kernel
theorem dX12_nextCond_53 : decode cX12_nextCond 53 = .ok (.getfield 259, 3) := by decide +kernel
theorem dX12_nextCond_56 : decode cX12_nextCond 56 = .ok (.iastore, 1) := by decide +kernel
theorem dX12_nextCond_57 : decode cX12_nextCond 57 = .ok (.aload_n 0, 1) := by decide +kernel
theorem dX12_nextCond_58 : decode cX12_nextCond 58 = .ok (.getfield 50, 3) := by decide +kernel
theorem dX12_nextCond_61 : decode cX12_nextCond 61 = .ok (.iconst 3, 1) := by decide +kernel
theorem dX12_nextCond_62 : decode cX12_nextCond 62 = .ok (.aload_n 0, 1) := by decide +kernel
theorem dX12_nextCond_63 : decode cX12_nextCond 63 = .ok (.getfield 282, 3) := by decide +kernel
theorem dX12_nextCond_66 : decode cX12_nextCond 66 = .ok (.imul, 1) := by decide +kernel
theorem dX12_nextCond_67 : decode cX12_nextCond 67 = .ok (.iconst 2, 1) := by decide +kernel
theorem dX12_nextCond_68 : decode cX12_nextCond 68 = .ok (.iadd, 1) := by decide +kernel
theorem dX12_nextCond_69 : decode cX12_nextCond 69 = .ok (.aload_n 0, 1) := by decide +kernel
theorem dX12_nextCond_70 : decode cX12_nextCond 70 = .ok (.getfield 266, 3) := by decide +kernel
theorem dX12_nextCond_73 : decode cX12_nextCond 73 = .ok (.iastore, 1) := by decide +kernel
theorem dX12_nextCond_74 : decode cX12_nextCond 74 = .ok (.aload_n 0, 1) := by decide +kernel
theorem dX12_nextCond_75 : decode cX12_nextCond 75 = .ok (.dup, 1) := by decide +kernel
theorem dX12_nextCond_76 : decode cX12_nextCond 76 = .ok (.getfield 282, 3) := by decide +kernel
theorem dX12_nextCond_79 : decode cX12_nextCond 79 = .ok (.iconst 1, 1) := by decide +kernel
theorem dX12_nextCond_80 : decode cX12_nextCond 80 = .ok (.iadd, 1) := by decide +kernel
theorem dX12_nextCond_81 : decode cX12_nextCond 81 = .ok (.putfield 282, 3) := by decide +kernel
theorem dX12_nextCond_84 : decode cX12_nextCond 84 = .ok (.return_, 1) := by decide +kernel
theorem dX12_readsQuery_0 : decode cX12_readsQuery 0 = .ok (.aload_n 0, 1) := by decide +kernel
theorem dX12_readsQuery_1 : decode cX12_readsQuery 1 = .ok (.getfield 38, 3) := by decide +kernel
theorem dX12_readsQuery_4 : decode cX12_readsQuery 4 = .ok (.iconst 5, 1) := by decide +kernel
theorem dX12_readsQuery_5 : decode cX12_readsQuery 5 = .ok (.iconst 0, 1) := by decide +kernel
theorem dX12_readsQuery_6 : decode cX12_readsQuery 6 = .ok (.iastore, 1) := by decide +kernel
theorem dX12_readsQuery_7 : decode cX12_readsQuery 7 = .ok (.aload_n 0, 1) := by decide +kernel
theorem dX12_readsQuery_8 : decode cX12_readsQuery 8 = .ok (.iconst 0, 1) := by decide +kernel
theorem dX12_readsQuery_9 : decode cX12_readsQuery 9 = .ok (.putfield 282, 3) := by decide +kernel
theorem dX12_readsQuery_12 : decode cX12_readsQuery 12 = .ok (.aload_n 0, 1) := by decide +kernel
theorem dX12_readsQuery_13 : decode cX12_readsQuery 13 = .ok (.bipush 7, 2) := by decide +kernel
theorem dX12_readsQuery_15 : decode cX12_readsQuery 15 = .ok (.invokevirtual 273, 3) := by decide +kernel
theorem dX12_readsQuery_18 : decode cX12_readsQuery 18 = .ok (.aload_n 0, 1) := by decide +kernel
theorem dX12_readsQuery_19 : decode cX12_readsQuery 19 = .ok (.getfield 223, 3) := by decide +kernel
theorem dX12_readsQuery_22 : decode cX12_readsQuery 22 = .ok (.ifCond .ne 40, 3) := by decide +kernel
theorem dX12_readsQuery_25 : decode cX12_readsQuery 25 = .ok (.aload_n 0, 1) := by decide +kernel
theorem dX12_readsQuery_26 : decode cX12_readsQuery 26 = .ok (.invokevirtual 239, 3) := by decide +kernel
theorem dX12_readsQuery_29 : decode cX12_readsQuery 29 = .ok (.i2l, 1) := by decide +kernel
theorem dX12_readsQuery_30 : decode cX12_readsQuery 30 = .ok (.ldc2_w 285, 3) := by decide +kernel
theorem dX12_readsQuery_33 : decode cX12_readsQuery 33 = .ok (.ldc2_w 287, 3) := by decide +kernel
theorem dX12_readsQuery_36 : decode cX12_readsQuery 36 = .ok (.invokestatic 86, 3) := by decide +kernel
theorem dX12_readsQuery_39 : decode cX12_readsQuery 39 = .ok (.ifCond .eq 23, 3) := by decide +kernel
theorem dX12_readsQuery_42 : decode cX12_readsQuery 42 = .ok (.aload_n 0, 1) := by decide +kernel
theorem dX12_readsQuery_43 : decode cX12_readsQuery 43 = .ok (.invokevirtual 289, 3) := by decide +kernel
theorem dX12_readsQuery_46 : decode cX12_readsQuery 46 = .ok (.aload_n 0, 1) := by decide +kernel
theorem dX12_readsQuery_47 : decode cX12_readsQuery 47 = .ok (.bipush 8, 2) := by decide +kernel
theorem dX12_readsQuery_49 : decode cX12_readsQuery 49 = .ok (.invokevirtual 242, 3) := by decide +kernel
theorem dX12_readsQuery_52 : decode cX12_readsQuery 52 = .ok (.ifCond .eq 10, 3) := by decide +kernel
theorem dX12_readsQuery_55 : decode cX12_readsQuery 55 = .ok (.aload_n 0, 1) := by decide +kernel
theorem dX12_readsQuery_56 : decode cX12_readsQuery 56 = .ok (.invokevirtual 289, 3) := by decide +kernel
theorem dX12_readsQuery_59 : decode cX12_readsQuery 59 = .ok (.goto (-13), 3) := by decide +kernel
theorem dX12_readsQuery_62 : decode cX12_readsQuery 62 = .ok (.aload_n 0, 1) := by decide +kernel
theorem dX12_readsQuery_63 : decode cX12_readsQuery 63 = .ok (.bipush 9, 2) := by decide +kernel
theorem dX12_readsQuery_65 : decode cX12_readsQuery 65 = .ok (.invokevirtual 242, 3) := by decide +kernel
theorem dX12_readsQuery_68 : decode cX12_readsQuery 68 = .ok (.ifCond .eq 48, 3) := by decide +kernel
theorem dX12_readsQuery_71 : decode cX12_readsQuery 71 = .ok (.aload_n 0, 1) := by decide +kernel
theorem dX12_readsQuery_72 : decode cX12_readsQuery 72 = .ok (.invokevirtual 276, 3) := by decide +kernel
theorem dX12_readsQuery_75 : decode cX12_readsQuery 75 = .ok (.aload_n 0, 1) := by decide +kernel
theorem dX12_readsQuery_76 : decode cX12_readsQuery 76 = .ok (.invokevirtual 226, 3) := by decide +kernel
theorem dX12_readsQuery_79 : decode cX12_readsQuery 79 = .ok (.aload_n 0, 1) := by decide +kernel
theorem dX12_readsQuery_80 : decode cX12_readsQuery 80 = .ok (.getfield 223, 3) := by decide +kernel
theorem dX12_readsQuery_83 : decode cX12_readsQuery 83 = .ok (.ifCond .ne 33, 3) := by decide +kernel
theorem dX12_readsQuery_86 : decode cX12_readsQuery 86 = .ok (.aload_n 0, 1) := by decide +kernel
theorem dX12_readsQuery_87 : decode cX12_readsQuery 87 = .ok (.invokevirtual 219, 3) := by decide +kernel
theorem dX12_readsQuery_90 : decode cX12_readsQuery 90 = .ok (.bipush 44, 2) := by decide +kernel
theorem dX12_readsQuery_92 : decode cX12_readsQuery 92 = .ok (.if_icmp .ne 24, 3) := by decide +kernel
theorem dX12_readsQuery_95 : decode cX12_readsQuery 95 = .ok (.aload_n 0, 1) := by decide +kernel
theorem dX12_readsQuery_96 : decode cX12_readsQuery 96 = .ok (.dup, 1) := by decide +kernel
theorem dX12_readsQuery_97 : decode cX12_readsQuery 97 = .ok (.getfield 213, 3) := by decide +kernel
theorem dX12_readsQuery_100 : decode cX12_readsQuery 100 = .ok (.iconst 1, 1) := by decide +kernel
theorem dX12_readsQuery_101 : decode cX12_readsQuery 101 = .ok (.iadd, 1) := by decide +kernel
theorem dX12_readsQuery_102 : decode cX12_readsQuery 102 = .ok (.putfield 213, 3) := by decide +kernel
theorem dX12_readsQuery_105 : decode cX12_readsQuery 105 = .ok (.aload_n 0, 1) := by decide +kernel
theorem dX12_readsQuery_106 : decode cX12_readsQuery 106 = .ok (.invokevirtual 276, 3) := by decide +kernel
theorem dX12_readsQuery_109 : decode cX12_readsQuery 109 = .ok (.aload_n 0, 1) := by decide +kernel
theorem dX12_readsQuery_110 : decode cX12_readsQuery 110 = .ok (.invokevirtual 226, 3) := by decide +kernel
theorem dX12_readsQuery_113 : decode cX12_readsQuery 113 = .ok (.goto (-34), 3) := by decide +kernel
theorem dX12_readsQuery_116 : decode cX12_readsQuery 116 = .ok (.aload_n 0, 1) := by decide +kernel
theorem dX12_readsQuery_117 : decode cX12_readsQuery 117 = .ok (.invokevirtual 226, 3) := by decide +kernel
theorem dX12_readsQuery_120 : decode cX12_readsQuery 120 = .ok (.aload_n 0, 1) := by decide +kernel
theorem dX12_readsQuery_121 : decode cX12_readsQuery 121 = .ok (.getfield 213, 3) := by decide +kernel
theorem dX12_readsQuery_124 : decode cX12_readsQuery 124 = .ok (.aload_n 0, 1) := by decide +kernel
theorem dX12_readsQuery_125 : decode cX12_readsQuery 125 = .ok (.getfield 216, 3) := by decide +kernel
theorem dX12_readsQuery_128 : decode cX12_readsQuery 128 = .ok (.if_icmp .ge 12, 3) := by decide +kernel
theorem dX12_readsQuery_131 : decode cX12_readsQuery 131 = .ok (.aload_n 0, 1) := by decide +kernel
theorem dX12_readsQuery_132 : decode cX12_readsQuery 132 = .ok (.iconst 1, 1) := by decide +kernel
theorem dX12_readsQuery_133 : decode cX12_readsQuery 133 = .ok (.aload_n 0, 1) := by decide +kernel
theorem dX12_readsQuery_134 : decode cX12_readsQuery 134 = .ok (.getfield 213, 3) := by decide +kernel
theorem dX12_readsQuery_137 : decode cX12_readsQuery 137 = .ok (.invokevirtual 245, 3) := by decide +kernel
theorem dX12_readsQuery_140 : decode cX12_readsQuery 140 = .ok (.return_, 1) := by decide +kernel
theorem dX12_opens_0 : decode cX12_opens 0 = .ok (.aload_n 0, 1) := by decide +kernel
theorem dX12_opens_1 : decode cX12_opens 1 = .ok (.iconst 0, 1) := by decide +kernel
theorem dX12_opens_2 : decode cX12_opens 2 = .ok (.putfield 210, 3) := by decide +kernel
theorem dX12_opens_5 : decode cX12_opens 5 = .ok (.aload_n 0, 1) := by decide +kernel
theorem dX12_opens_6 : decode cX12_opens 6 = .ok (.iload_n 1, 1) := by decide +kernel
theorem dX12_opens_7 : decode cX12_opens 7 = .ok (.putfield 216, 3) := by decide +kernel
theorem dX12_opens_10 : decode cX12_opens 10 = .ok (.aload_n 0, 1) := by decide +kernel
theorem dX12_opens_11 : decode cX12_opens 11 = .ok (.iconst 0, 1) := by decide +kernel
theorem dX12_opens_12 : decode cX12_opens 12 = .ok (.putfield 213, 3) := by decide +kernel
theorem dX12_opens_15 : decode cX12_opens 15 = .ok (.aload_n 0, 1) := by decide +kernel
theorem dX12_opens_16 : decode cX12_opens 16 = .ok (.iconst 0, 1) := by decide +kernel
theorem dX12_opens_17 : decode cX12_opens 17 = .ok (.putfield 223, 3) := by decide +kernel
theorem dX12_opens_20 : decode cX12_opens 20 = .ok (.aload_n 0, 1) := by decide +kernel
theorem dX12_opens_21 : decode cX12_opens 21 = .ok (.iconst (-1), 1) := by decide +kernel
theorem dX12_opens_22 : decode cX12_opens 22 = .ok (.putfield 35, 3) := by decide +kernel
theorem dX12_opens_25 : decode cX12_opens 25 = .ok (.return_, 1) := by decide +kernel
theorem dX12_query_0 : decode cX12_query 0 = .ok (.aload_n 0, 1) := by decide +kernel
theorem dX12_query_1 : decode cX12_query 1 = .ok (.iconst 0, 1) := by decide +kernel
theorem dX12_query_2 : decode cX12_query 2 = .ok (.putfield 1, 3) := by decide +kernel
theorem dX12_query_5 : decode cX12_query 5 = .ok (.iload_n 1, 1) := by decide +kernel
theorem dX12_query_6 : decode cX12_query 6 = .ok (.i2l, 1) := by decide +kernel
theorem dX12_query_7 : decode cX12_query 7 = .ok (.lconst 0, 1) := by decide +kernel
theorem dX12_query_8 : decode cX12_query 8 = .ok (.aload_n 0, 1) := by decide +kernel
theorem dX12_query_9 : decode cX12_query 9 = .ok (.getfield 210, 3) := by decide +kernel
theorem dX12_query_12 : decode cX12_query 12 = .ok (.i2l, 1) := by decide +kernel
theorem dX12_query_13 : decode cX12_query 13 = .ok (.invokestatic 86, 3) := by decide +kernel
theorem dX12_query_16 : decode cX12_query 16 = .ok (.ifCond .ne 6, 3) := by decide +kernel
theorem dX12_query_19 : decode cX12_query 19 = .ok (.bipush (-3), 2) := by decide +kernel
theorem dX12_query_21 : decode cX12_query 21 = .ok (.ireturn, 1) := by decide +kernel
theorem dX12_query_22 : decode cX12_query 22 = .ok (.aload_n 0, 1) := by decide +kernel
theorem dX12_query_23 : decode cX12_query 23 = .ok (.iload_n 1, 1) := by decide +kernel
theorem dX12_query_24 : decode cX12_query 24 = .ok (.invokevirtual 292, 3) := by decide +kernel
theorem dX12_query_27 : decode cX12_query 27 = .ok (.aload_n 0, 1) := by decide +kernel
theorem dX12_query_28 : decode cX12_query 28 = .ok (.invokevirtual 295, 3) := by decide +kernel
theorem dX12_query_31 : decode cX12_query 31 = .ok (.aload_n 0, 1) := by decide +kernel
theorem dX12_query_32 : decode cX12_query 32 = .ok (.getfield 223, 3) := by decide +kernel
theorem dX12_query_35 : decode cX12_query 35 = .ok (.ifCond .eq 11, 3) := by decide +kernel
theorem dX12_query_38 : decode cX12_query 38 = .ok (.bipush (-30), 2) := by decide +kernel
theorem dX12_query_40 : decode cX12_query 40 = .ok (.aload_n 0, 1) := by decide +kernel
theorem dX12_query_41 : decode cX12_query 41 = .ok (.getfield 223, 3) := by decide +kernel
theorem dX12_query_44 : decode cX12_query 44 = .ok (.isub, 1) := by decide +kernel
theorem dX12_query_45 : decode cX12_query 45 = .ok (.ireturn, 1) := by decide +kernel
theorem dX12_query_46 : decode cX12_query 46 = .ok (.aload_n 0, 1) := by decide +kernel
theorem dX12_query_47 : decode cX12_query 47 = .ok (.aload_n 0, 1) := by decide +kernel
theorem dX12_query_48 : decode cX12_query 48 = .ok (.getfield 282, 3) := by decide +kernel
theorem dX12_query_51 : decode cX12_query 51 = .ok (.putfield 53, 3) := by decide +kernel
theorem dX12_query_54 : decode cX12_query 54 = .ok (.aload_n 0, 1) := by decide +kernel
theorem dX12_query_55 : decode cX12_query 55 = .ok (.aload_n 0, 1) := by decide +kernel
theorem dX12_query_56 : decode cX12_query 56 = .ok (.getfield 38, 3) := by decide +kernel
theorem dX12_query_59 : decode cX12_query 59 = .ok (.iconst 5, 1) := by decide +kernel
theorem dX12_query_60 : decode cX12_query 60 = .ok (.iaload, 1) := by decide +kernel
theorem dX12_query_61 : decode cX12_query 61 = .ok (.putfield 298, 3) := by decide +kernel
theorem dX12_query_64 : decode cX12_query 64 = .ok (.aload_n 0, 1) := by decide +kernel
theorem dX12_query_65 : decode cX12_query 65 = .ok (.getfield 50, 3) := by decide +kernel
theorem dX12_query_68 : decode cX12_query 68 = .ok (.iconst 0, 1) := by decide +kernel
theorem dX12_query_69 : decode cX12_query 69 = .ok (.aload_n 0, 1) := by decide +kernel
theorem dX12_query_70 : decode cX12_query 70 = .ok (.getfield 44, 3) := by decide +kernel
theorem dX12_query_73 : decode cX12_query 73 = .ok (.iconst 0, 1) := by decide +kernel
theorem dX12_query_74 : decode cX12_query 74 = .ok (.iconst 3, 1) := by decide +kernel
theorem dX12_query_75 : decode cX12_query 75 = .ok (.aload_n 0, 1) := by decide +kernel
theorem dX12_query_76 : decode cX12_query 76 = .ok (.getfield 53, 3) := by decide +kernel
theorem dX12_query_79 : decode cX12_query 79 = .ok (.imul, 1) := by decide +kernel
theorem dX12_query_80 : decode cX12_query 80 = .ok (.invokestatic 76, 3) := by decide +kernel
theorem dX12_query_83 : decode cX12_query 83 = .ok (.aload_n 0, 1) := by decide +kernel
theorem dX12_query_84 : decode cX12_query 84 = .ok (.getfield 38, 3) := by decide +kernel
theorem dX12_query_87 : decode cX12_query 87 = .ok (.bipush 6, 2) := by decide +kernel
theorem dX12_query_89 : decode cX12_query 89 = .ok (.aload_n 0, 1) := by decide +kernel
theorem dX12_query_90 : decode cX12_query 90 = .ok (.getfield 47, 3) := by decide +kernel
theorem dX12_query_93 : decode cX12_query 93 = .ok (.iconst 0, 1) := by decide +kernel
theorem dX12_query_94 : decode cX12_query 94 = .ok (.aload_n 0, 1) := by decide +kernel
theorem dX12_query_95 : decode cX12_query 95 = .ok (.getfield 298, 3) := by decide +kernel
theorem dX12_query_98 : decode cX12_query 98 = .ok (.invokestatic 76, 3) := by decide +kernel
theorem dX12_query_101 : decode cX12_query 101 = .ok (.aload_n 0, 1) := by decide +kernel
theorem dX12_query_102 : decode cX12_query 102 = .ok (.getfield 53, 3) := by decide +kernel
theorem dX12_query_105 : decode cX12_query 105 = .ok (.ireturn, 1) := by decide +kernel
theorem dX12_holds_0 : decode cX12_holds 0 = .ok (.iload_n 0, 1) := by decide +kernel
theorem dX12_holds_1 : decode cX12_holds 1 = .ok (.tableswitch 60 0 2 #[27, 38, 49], 27) := by decide +kernel
theorem dX12_holds_28 : decode cX12_holds 28 = .ok (.iload_n 1, 1) := by decide +kernel
theorem dX12_holds_29 : decode cX12_holds 29 = .ok (.iload_n 2, 1) := by decide +kernel
theorem dX12_holds_30 : decode cX12_holds 30 = .ok (.if_icmp .ne 7, 3) := by decide +kernel
theorem dX12_holds_33 : decode cX12_holds 33 = .ok (.iconst 1, 1) := by decide +kernel
theorem dX12_holds_34 : decode cX12_holds 34 = .ok (.goto 4, 3) := by decide +kernel
theorem dX12_holds_37 : decode cX12_holds 37 = .ok (.iconst 0, 1) := by decide +kernel
theorem dX12_holds_38 : decode cX12_holds 38 = .ok (.ireturn, 1) := by decide +kernel
theorem dX12_holds_39 : decode cX12_holds 39 = .ok (.iload_n 1, 1) := by decide +kernel
theorem dX12_holds_40 : decode cX12_holds 40 = .ok (.iload_n 2, 1) := by decide +kernel
theorem dX12_holds_41 : decode cX12_holds 41 = .ok (.if_icmp .eq 7, 3) := by decide +kernel
theorem dX12_holds_44 : decode cX12_holds 44 = .ok (.iconst 1, 1) := by decide +kernel
theorem dX12_holds_45 : decode cX12_holds 45 = .ok (.goto 4, 3) := by decide +kernel
theorem dX12_holds_48 : decode cX12_holds 48 = .ok (.iconst 0, 1) := by decide +kernel
theorem dX12_holds_49 : decode cX12_holds 49 = .ok (.ireturn, 1) := by decide +kernel
theorem dX12_holds_50 : decode cX12_holds 50 = .ok (.iload_n 1, 1) := by decide +kernel
theorem dX12_holds_51 : decode cX12_holds 51 = .ok (.iload_n 2, 1) := by decide +kernel
theorem dX12_holds_52 : decode cX12_holds 52 = .ok (.if_icmp .ge 7, 3) := by decide +kernel
theorem dX12_holds_55 : decode cX12_holds 55 = .ok (.iconst 1, 1) := by decide +kernel
theorem dX12_holds_56 : decode cX12_holds 56 = .ok (.goto 4, 3) := by decide +kernel
theorem dX12_holds_59 : decode cX12_holds 59 = .ok (.iconst 0, 1) := by decide +kernel
theorem dX12_holds_60 : decode cX12_holds 60 = .ok (.ireturn, 1) := by decide +kernel
theorem dX12_holds_61 : decode cX12_holds 61 = .ok (.iload_n 1, 1) := by decide +kernel
theorem dX12_holds_62 : decode cX12_holds 62 = .ok (.iload_n 2, 1) := by decide +kernel
theorem dX12_holds_63 : decode cX12_holds 63 = .ok (.if_icmp .le 7, 3) := by decide +kernel
theorem dX12_holds_66 : decode cX12_holds 66 = .ok (.iconst 1, 1) := by decide +kernel
theorem dX12_holds_67 : decode cX12_holds 67 = .ok (.goto 4, 3) := by decide +kernel
theorem dX12_holds_70 : decode cX12_holds 70 = .ok (.iconst 0, 1) := by decide +kernel
theorem dX12_holds_71 : decode cX12_holds 71 = .ok (.ireturn, 1) := by decide +kernel
theorem dX12_placeSeen_0 : decode cX12_placeSeen 0 = .ok (.iload_n 1, 1) := by decide +kernel
theorem dX12_placeSeen_1 : decode cX12_placeSeen 1 = .ok (.iconst (-1), 1) := by decide +kernel
theorem dX12_placeSeen_2 : decode cX12_placeSeen 2 = .ok (.if_icmp .ne 11, 3) := by decide +kernel
theorem dX12_placeSeen_5 : decode cX12_placeSeen 5 = .ok (.aload_n 0, 1) := by decide +kernel
theorem dX12_placeSeen_6 : decode cX12_placeSeen 6 = .ok (.iload_n 2, 1) := by decide +kernel
theorem dX12_placeSeen_7 : decode cX12_placeSeen 7 = .ok (.invokevirtual 171, 3) := by decide +kernel
theorem dX12_placeSeen_10 : decode cX12_placeSeen 10 = .ok (.goto 9, 3) := by decide +kernel
theorem dX12_placeSeen_13 : decode cX12_placeSeen 13 = .ok (.aload_n 0, 1) := by decide +kernel
theorem dX12_placeSeen_14 : decode cX12_placeSeen 14 = .ok (.iload_n 1, 1) := by decide +kernel
theorem dX12_placeSeen_15 : decode cX12_placeSeen 15 = .ok (.iload_n 2, 1) := by decide +kernel
theorem dX12_placeSeen_16 : decode cX12_placeSeen 16 = .ok (.invokevirtual 168, 3) := by decide +kernel
theorem dX12_placeSeen_19 : decode cX12_placeSeen 19 = .ok (.ireturn, 1) := by decide +kernel
theorem dX12_doesFind_0 : decode cX12_doesFind 0 = .ok (.aload_n 0, 1) := by decide +kernel
theorem dX12_doesFind_1 : decode cX12_doesFind 1 = .ok (.getfield 13, 3) := by decide +kernel
theorem dX12_doesFind_4 : decode cX12_doesFind 4 = .ok (.iload_n 1, 1) := by decide +kernel
theorem dX12_doesFind_5 : decode cX12_doesFind 5 = .ok (.iconst 1, 1) := by decide +kernel
theorem dX12_doesFind_6 : decode cX12_doesFind 6 = .ok (.iadd, 1) := by decide +kernel
theorem dX12_doesFind_7 : decode cX12_doesFind 7 = .ok (.iaload, 1) := by decide +kernel
theorem dX12_doesFind_8 : decode cX12_doesFind 8 = .ok (.iconst 1, 1) := by decide +kernel
theorem dX12_doesFind_9 : decode cX12_doesFind 9 = .ok (.if_icmp .ne 7, 3) := by decide +kernel
theorem dX12_doesFind_12 : decode cX12_doesFind 12 = .ok (.iconst 1, 1) := by decide +kernel
theorem dX12_doesFind_13 : decode cX12_doesFind 13 = .ok (.goto 4, 3) := by decide +kernel
theorem dX12_doesFind_16 : decode cX12_doesFind 16 = .ok (.iconst 0, 1) := by decide +kernel
theorem dX12_doesFind_17 : decode cX12_doesFind 17 = .ok (.istore_n 2, 1) := by decide +kernel
theorem dX12_doesFind_18 : decode cX12_doesFind 18 = .ok (.iconst 0, 1) := by decide +kernel
theorem dX12_doesFind_19 : decode cX12_doesFind 19 = .ok (.istore_n 3, 1) := by decide +kernel
theorem dX12_doesFind_20 : decode cX12_doesFind 20 = .ok (.iload_n 3, 1) := by decide +kernel
theorem dX12_doesFind_21 : decode cX12_doesFind 21 = .ok (.aload_n 0, 1) := by decide +kernel
theorem dX12_doesFind_22 : decode cX12_doesFind 22 = .ok (.getfield 53, 3) := by decide +kernel
theorem dX12_doesFind_25 : decode cX12_doesFind 25 = .ok (.if_icmp .ge 62, 3) := by decide +kernel
theorem dX12_doesFind_28 : decode cX12_doesFind 28 = .ok (.iload_n 2, 1) := by decide +kernel
theorem dX12_doesFind_29 : decode cX12_doesFind 29 = .ok (.ifCond .eq 50, 3) := by decide +kernel
theorem dX12_doesFind_32 : decode cX12_doesFind 32 = .ok (.aload_n 0, 1) := by decide +kernel
theorem dX12_doesFind_33 : decode cX12_doesFind 33 = .ok (.getfield 44, 3) := by decide +kernel
theorem dX12_doesFind_36 : decode cX12_doesFind 36 = .ok (.iconst 3, 1) := by decide +kernel
theorem dX12_doesFind_37 : decode cX12_doesFind 37 = .ok (.iload_n 3, 1) := by decide +kernel
theorem dX12_doesFind_38 : decode cX12_doesFind 38 = .ok (.imul, 1) := by decide +kernel
theorem dX12_doesFind_39 : decode cX12_doesFind 39 = .ok (.iconst 1, 1) := by decide +kernel
theorem dX12_doesFind_40 : decode cX12_doesFind 40 = .ok (.iadd, 1) := by decide +kernel
theorem dX12_doesFind_41 : decode cX12_doesFind 41 = .ok (.iaload, 1) := by decide +kernel
theorem dX12_doesFind_42 : decode cX12_doesFind 42 = .ok (.aload_n 0, 1) := by decide +kernel
theorem dX12_doesFind_43 : decode cX12_doesFind 43 = .ok (.getfield 13, 3) := by decide +kernel
theorem dX12_doesFind_46 : decode cX12_doesFind 46 = .ok (.iload_n 1, 1) := by decide +kernel
theorem dX12_doesFind_47 : decode cX12_doesFind 47 = .ok (.iconst 2, 1) := by decide +kernel
theorem dX12_doesFind_48 : decode cX12_doesFind 48 = .ok (.iadd, 1) := by decide +kernel
theorem dX12_doesFind_49 : decode cX12_doesFind 49 = .ok (.aload_n 0, 1) := by decide +kernel
theorem dX12_doesFind_50 : decode cX12_doesFind 50 = .ok (.getfield 44, 3) := by decide +kernel
theorem dX12_doesFind_53 : decode cX12_doesFind 53 = .ok (.iconst 3, 1) := by decide +kernel
theorem dX12_doesFind_54 : decode cX12_doesFind 54 = .ok (.iload_n 3, 1) := by decide +kernel
theorem dX12_doesFind_55 : decode cX12_doesFind 55 = .ok (.imul, 1) := by decide +kernel
theorem dX12_doesFind_56 : decode cX12_doesFind 56 = .ok (.iaload, 1) := by decide +kernel
theorem dX12_doesFind_57 : decode cX12_doesFind 57 = .ok (.iadd, 1) := by decide +kernel
theorem dX12_doesFind_58 : decode cX12_doesFind 58 = .ok (.iaload, 1) := by decide +kernel
theorem dX12_doesFind_59 : decode cX12_doesFind 59 = .ok (.aload_n 0, 1) := by decide +kernel
theorem dX12_doesFind_60 : decode cX12_doesFind 60 = .ok (.getfield 44, 3) := by decide +kernel
theorem dX12_doesFind_63 : decode cX12_doesFind 63 = .ok (.iconst 3, 1) := by decide +kernel
theorem dX12_doesFind_64 : decode cX12_doesFind 64 = .ok (.iload_n 3, 1) := by decide +kernel
theorem dX12_doesFind_65 : decode cX12_doesFind 65 = .ok (.imul, 1) := by decide +kernel
theorem dX12_doesFind_66 : decode cX12_doesFind 66 = .ok (.iconst 2, 1) := by decide +kernel
theorem dX12_doesFind_67 : decode cX12_doesFind 67 = .ok (.iadd, 1) := by decide +kernel
theorem dX12_doesFind_68 : decode cX12_doesFind 68 = .ok (.iaload, 1) := by decide +kernel
theorem dX12_doesFind_69 : decode cX12_doesFind 69 = .ok (.invokestatic 107, 3) := by decide +kernel
theorem dX12_doesFind_72 : decode cX12_doesFind 72 = .ok (.ifCond .eq 7, 3) := by decide +kernel
theorem dX12_doesFind_75 : decode cX12_doesFind 75 = .ok (.iconst 1, 1) := by decide +kernel
theorem dX12_doesFind_76 : decode cX12_doesFind 76 = .ok (.goto 4, 3) := by decide +kernel
theorem dX12_doesFind_79 : decode cX12_doesFind 79 = .ok (.iconst 0, 1) := by decide +kernel
theorem dX12_doesFind_80 : decode cX12_doesFind 80 = .ok (.istore_n 2, 1) := by decide +kernel
theorem dX12_doesFind_81 : decode cX12_doesFind 81 = .ok (.iinc 3 1, 3) := by decide +kernel
theorem dX12_doesFind_84 : decode cX12_doesFind 84 = .ok (.goto (-64), 3) := by decide +kernel
theorem dX12_doesFind_87 : decode cX12_doesFind 87 = .ok (.iload_n 2, 1) := by decide +kernel
theorem dX12_doesFind_88 : decode cX12_doesFind 88 = .ok (.ireturn, 1) := by decide +kernel
theorem dX12_isAheadByKeys_0 : decode cX12_isAheadByKeys 0 = .ok (.iconst 0, 1) := by decide +kernel
theorem dX12_isAheadByKeys_1 : decode cX12_isAheadByKeys 1 = .ok (.istore_n 3, 1) := by decide +kernel
theorem dX12_isAheadByKeys_2 : decode cX12_isAheadByKeys 2 = .ok (.iload_n 3, 1) := by decide +kernel
theorem dX12_isAheadByKeys_3 : decode cX12_isAheadByKeys 3 = .ok (.aload_n 0, 1) := by decide +kernel
theorem dX12_isAheadByKeys_4 : decode cX12_isAheadByKeys 4 = .ok (.getfield 298, 3) := by decide +kernel
theorem dX12_isAheadByKeys_7 : decode cX12_isAheadByKeys 7 = .ok (.if_icmp .ge 88, 3) := by decide +kernel
theorem dX12_isAheadByKeys_10 : decode cX12_isAheadByKeys 10 = .ok (.aload_n 0, 1) := by decide +kernel
theorem dX12_isAheadByKeys_11 : decode cX12_isAheadByKeys 11 = .ok (.getfield 13, 3) := by decide +kernel
theorem dX12_isAheadByKeys_14 : decode cX12_isAheadByKeys 14 = .ok (.iload_n 1, 1) := by decide +kernel
theorem dX12_isAheadByKeys_15 : decode cX12_isAheadByKeys 15 = .ok (.iconst 2, 1) := by decide +kernel
theorem dX12_isAheadByKeys_16 : decode cX12_isAheadByKeys 16 = .ok (.iadd, 1) := by decide +kernel
theorem dX12_isAheadByKeys_17 : decode cX12_isAheadByKeys 17 = .ok (.aload_n 0, 1) := by decide +kernel
theorem dX12_isAheadByKeys_18 : decode cX12_isAheadByKeys 18 = .ok (.getfield 47, 3) := by decide +kernel
theorem dX12_isAheadByKeys_21 : decode cX12_isAheadByKeys 21 = .ok (.iload_n 3, 1) := by decide +kernel
theorem dX12_isAheadByKeys_22 : decode cX12_isAheadByKeys 22 = .ok (.iaload, 1) := by decide +kernel
theorem dX12_isAheadByKeys_23 : decode cX12_isAheadByKeys 23 = .ok (.bipush 10, 2) := by decide +kernel
theorem dX12_isAheadByKeys_25 : decode cX12_isAheadByKeys 25 = .ok (.irem, 1) := by decide +kernel
theorem dX12_isAheadByKeys_26 : decode cX12_isAheadByKeys 26 = .ok (.iadd, 1) := by decide +kernel
theorem dX12_isAheadByKeys_27 : decode cX12_isAheadByKeys 27 = .ok (.iaload, 1) := by decide +kernel
theorem dX12_isAheadByKeys_28 : decode cX12_isAheadByKeys 28 = .ok (.aload_n 0, 1) := by decide +kernel
theorem dX12_isAheadByKeys_29 : decode cX12_isAheadByKeys 29 = .ok (.getfield 13, 3) := by decide +kernel
theorem dX12_isAheadByKeys_32 : decode cX12_isAheadByKeys 32 = .ok (.iload_n 2, 1) := by decide +kernel
theorem dX12_isAheadByKeys_33 : decode cX12_isAheadByKeys 33 = .ok (.iconst 2, 1) := by decide +kernel
theorem dX12_isAheadByKeys_34 : decode cX12_isAheadByKeys 34 = .ok (.iadd, 1) := by decide +kernel
theorem dX12_isAheadByKeys_35 : decode cX12_isAheadByKeys 35 = .ok (.aload_n 0, 1) := by decide +kernel
theorem dX12_isAheadByKeys_36 : decode cX12_isAheadByKeys 36 = .ok (.getfield 47, 3) := by decide +kernel
theorem dX12_isAheadByKeys_39 : decode cX12_isAheadByKeys 39 = .ok (.iload_n 3, 1) := by decide +kernel
theorem dX12_isAheadByKeys_40 : decode cX12_isAheadByKeys 40 = .ok (.iaload, 1) := by decide +kernel
theorem dX12_isAheadByKeys_41 : decode cX12_isAheadByKeys 41 = .ok (.bipush 10, 2) := by decide +kernel
theorem dX12_isAheadByKeys_43 : decode cX12_isAheadByKeys 43 = .ok (.irem, 1) := by decide +kernel
theorem dX12_isAheadByKeys_44 : decode cX12_isAheadByKeys 44 = .ok (.iadd, 1) := by decide +kernel
theorem dX12_isAheadByKeys_45 : decode cX12_isAheadByKeys 45 = .ok (.iaload, 1) := by decide +kernel
theorem dX12_isAheadByKeys_46 : decode cX12_isAheadByKeys 46 = .ok (.isub, 1) := by decide +kernel
theorem dX12_isAheadByKeys_47 : decode cX12_isAheadByKeys 47 = .ok (.istore 4, 2) := by decide +kernel
theorem dX12_isAheadByKeys_49 : decode cX12_isAheadByKeys 49 = .ok (.iload 4, 2) := by decide +kernel
theorem dX12_isAheadByKeys_51 : decode cX12_isAheadByKeys 51 = .ok (.ifCond .eq 38, 3) := by decide +kernel
theorem dX12_isAheadByKeys_54 : decode cX12_isAheadByKeys 54 = .ok (.aload_n 0, 1) := by decide +kernel
theorem dX12_isAheadByKeys_55 : decode cX12_isAheadByKeys 55 = .ok (.getfield 47, 3) := by decide +kernel
theorem dX12_isAheadByKeys_58 : decode cX12_isAheadByKeys 58 = .ok (.iload_n 3, 1) := by decide +kernel
theorem dX12_isAheadByKeys_59 : decode cX12_isAheadByKeys 59 = .ok (.iaload, 1) := by decide +kernel
theorem dX12_isAheadByKeys_60 : decode cX12_isAheadByKeys 60 = .ok (.bipush 9, 2) := by decide +kernel
theorem dX12_isAheadByKeys_62 : decode cX12_isAheadByKeys 62 = .ok (.if_icmp .le 16, 3) := by decide +kernel
theorem dX12_isAheadByKeys_65 : decode cX12_isAheadByKeys 65 = .ok (.iload 4, 2) := by decide +kernel
theorem dX12_isAheadByKeys_67 : decode cX12_isAheadByKeys 67 = .ok (.ifCond .le 7, 3) := by decide +kernel
theorem dX12_isAheadByKeys_70 : decode cX12_isAheadByKeys 70 = .ok (.iconst 1, 1) := by decide +kernel
theorem dX12_isAheadByKeys_71 : decode cX12_isAheadByKeys 71 = .ok (.goto 17, 3) := by decide +kernel
theorem dX12_isAheadByKeys_74 : decode cX12_isAheadByKeys 74 = .ok (.iconst 0, 1) := by decide +kernel
theorem dX12_isAheadByKeys_75 : decode cX12_isAheadByKeys 75 = .ok (.goto 13, 3) := by decide +kernel
theorem dX12_isAheadByKeys_78 : decode cX12_isAheadByKeys 78 = .ok (.iload 4, 2) := by decide +kernel
theorem dX12_isAheadByKeys_80 : decode cX12_isAheadByKeys 80 = .ok (.ifCond .ge 7, 3) := by decide +kernel
theorem dX12_isAheadByKeys_83 : decode cX12_isAheadByKeys 83 = .ok (.iconst 1, 1) := by decide +kernel
theorem dX12_isAheadByKeys_84 : decode cX12_isAheadByKeys 84 = .ok (.goto 4, 3) := by decide +kernel
theorem dX12_isAheadByKeys_87 : decode cX12_isAheadByKeys 87 = .ok (.iconst 0, 1) := by decide +kernel
theorem dX12_isAheadByKeys_88 : decode cX12_isAheadByKeys 88 = .ok (.ireturn, 1) := by decide +kernel
theorem dX12_isAheadByKeys_89 : decode cX12_isAheadByKeys 89 = .ok (.iinc 3 1, 3) := by decide +kernel
theorem dX12_isAheadByKeys_92 : decode cX12_isAheadByKeys 92 = .ok (.goto (-90), 3) := by decide +kernel
theorem dX12_isAheadByKeys_95 : decode cX12_isAheadByKeys 95 = .ok (.iconst 0, 1) := by decide +kernel
theorem dX12_isAheadByKeys_96 : decode cX12_isAheadByKeys 96 = .ok (.ireturn, 1) := by decide +kernel
theorem dX12_finds_0 : decode cX12_finds 0 = .ok (.aload_n 0, 1) := by decide +kernel
theorem dX12_finds_1 : decode cX12_finds 1 = .ok (.iconst 0, 1) := by decide +kernel
theorem dX12_finds_2 : decode cX12_finds 2 = .ok (.putfield 301, 3) := by decide +kernel
theorem dX12_finds_5 : decode cX12_finds 5 = .ok (.iconst 0, 1) := by decide +kernel
theorem dX12_finds_6 : decode cX12_finds 6 = .ok (.istore_n 2, 1) := by decide +kernel
theorem dX12_finds_7 : decode cX12_finds 7 = .ok (.iload_n 2, 1) := by decide +kernel
theorem dX12_finds_8 : decode cX12_finds 8 = .ok (.bipush 48, 2) := by decide +kernel
theorem dX12_finds_10 : decode cX12_finds 10 = .ok (.if_icmp .ge 100, 3) := by decide +kernel
theorem dX12_finds_13 : decode cX12_finds 13 = .ok (.aload_n 0, 1) := by decide +kernel
theorem dX12_finds_14 : decode cX12_finds 14 = .ok (.iload_n 1, 1) := by decide +kernel
theorem dX12_finds_15 : decode cX12_finds 15 = .ok (.iload_n 2, 1) := by decide +kernel
theorem dX12_finds_16 : decode cX12_finds 16 = .ok (.invokevirtual 304, 3) := by decide +kernel
theorem dX12_finds_19 : decode cX12_finds 19 = .ok (.istore_n 3, 1) := by decide +kernel
theorem dX12_finds_20 : decode cX12_finds 20 = .ok (.aload_n 0, 1) := by decide +kernel
theorem dX12_finds_21 : decode cX12_finds 21 = .ok (.iload_n 3, 1) := by decide +kernel
theorem dX12_finds_22 : decode cX12_finds 22 = .ok (.invokevirtual 307, 3) := by decide +kernel
theorem dX12_finds_25 : decode cX12_finds 25 = .ok (.ifCond .ne 6, 3) := by decide +kernel
theorem dX12_finds_28 : decode cX12_finds 28 = .ok (.goto 76, 3) := by decide +kernel
theorem dX12_finds_31 : decode cX12_finds 31 = .ok (.aload_n 0, 1) := by decide +kernel
theorem dX12_finds_32 : decode cX12_finds 32 = .ok (.getfield 301, 3) := by decide +kernel
theorem dX12_finds_35 : decode cX12_finds 35 = .ok (.istore 4, 2) := by decide +kernel
theorem dX12_finds_37 : decode cX12_finds 37 = .ok (.iload 4, 2) := by decide +kernel
theorem dX12_finds_39 : decode cX12_finds 39 = .ok (.ifCond .le 47, 3) := by decide +kernel
theorem dX12_finds_42 : decode cX12_finds 42 = .ok (.aload_n 0, 1) := by decide +kernel
theorem dX12_finds_43 : decode cX12_finds 43 = .ok (.iload_n 3, 1) := by decide +kernel
theorem dX12_finds_44 : decode cX12_finds 44 = .ok (.aload_n 0, 1) := by decide +kernel
theorem dX12_finds_45 : decode cX12_finds 45 = .ok (.iload_n 1, 1) := by decide +kernel
theorem dX12_finds_46 : decode cX12_finds 46 = .ok (.aload_n 0, 1) := by decide +kernel
theorem dX12_finds_47 : decode cX12_finds 47 = .ok (.getfield 56, 3) := by decide +kernel
theorem dX12_finds_50 : decode cX12_finds 50 = .ok (.iload 4, 2) := by decide +kernel
theorem dX12_finds_52 : decode cX12_finds 52 = .ok (.iconst 1, 1) := by decide +kernel
theorem dX12_finds_53 : decode cX12_finds 53 = .ok (.isub, 1) := by decide +kernel
theorem dX12_finds_54 : decode cX12_finds 54 = .ok (.iaload, 1) := by decide +kernel
theorem dX12_finds_55 : decode cX12_finds 55 = .ok (.invokevirtual 304, 3) := by decide +kernel
theorem dX12_finds_58 : decode cX12_finds 58 = .ok (.invokevirtual 310, 3) := by decide +kernel
theorem dX12_finds_61 : decode cX12_finds 61 = .ok (.ifCond .eq 25, 3) := by decide +kernel
theorem dX12_finds_64 : decode cX12_finds 64 = .ok (.aload_n 0, 1) := by decide +kernel
theorem dX12_finds_65 : decode cX12_finds 65 = .ok (.getfield 56, 3) := by decide +kernel
theorem dX12_finds_68 : decode cX12_finds 68 = .ok (.iload 4, 2) := by decide +kernel
theorem dX12_finds_70 : decode cX12_finds 70 = .ok (.aload_n 0, 1) := by decide +kernel
theorem dX12_finds_71 : decode cX12_finds 71 = .ok (.getfield 56, 3) := by decide +kernel
theorem dX12_finds_74 : decode cX12_finds 74 = .ok (.iload 4, 2) := by decide +kernel
theorem dX12_finds_76 : decode cX12_finds 76 = .ok (.iconst 1, 1) := by decide +kernel
theorem dX12_finds_77 : decode cX12_finds 77 = .ok (.isub, 1) := by decide +kernel
theorem dX12_finds_78 : decode cX12_finds 78 = .ok (.iaload, 1) := by decide +kernel
theorem dX12_finds_79 : decode cX12_finds 79 = .ok (.iastore, 1) := by decide +kernel
theorem dX12_finds_80 : decode cX12_finds 80 = .ok (.iinc 4 (-1), 3) := by decide +kernel
theorem dX12_finds_83 : decode cX12_finds 83 = .ok (.goto (-46), 3) := by decide +kernel
theorem dX12_finds_86 : decode cX12_finds 86 = .ok (.aload_n 0, 1) := by decide +kernel
theorem dX12_finds_87 : decode cX12_finds 87 = .ok (.getfield 56, 3) := by decide +kernel
theorem dX12_finds_90 : decode cX12_finds 90 = .ok (.iload 4, 2) := by decide +kernel
theorem dX12_finds_92 : decode cX12_finds 92 = .ok (.iload_n 2, 1) := by decide +kernel
theorem dX12_finds_93 : decode cX12_finds 93 = .ok (.iastore, 1) := by decide +kernel
theorem dX12_finds_94 : decode cX12_finds 94 = .ok (.aload_n 0, 1) := by decide +kernel
theorem dX12_finds_95 : decode cX12_finds 95 = .ok (.dup, 1) := by decide +kernel
theorem dX12_finds_96 : decode cX12_finds 96 = .ok (.getfield 301, 3) := by decide +kernel
theorem dX12_finds_99 : decode cX12_finds 99 = .ok (.iconst 1, 1) := by decide +kernel
theorem dX12_finds_100 : decode cX12_finds 100 = .ok (.iadd, 1) := by decide +kernel
theorem dX12_finds_101 : decode cX12_finds 101 = .ok (.putfield 301, 3) := by decide +kernel
theorem dX12_finds_104 : decode cX12_finds 104 = .ok (.iinc 2 1, 3) := by decide +kernel
theorem dX12_finds_107 : decode cX12_finds 107 = .ok (.goto (-100), 3) := by decide +kernel
theorem dX12_finds_110 : decode cX12_finds 110 = .ok (.return_, 1) := by decide +kernel
theorem dX12_refusesFind_0 : decode cX12_refusesFind 0 = .ok (.iload_n 1, 1) := by decide +kernel
theorem dX12_refusesFind_1 : decode cX12_refusesFind 1 = .ok (.iconst (-1), 1) := by decide +kernel
theorem dX12_refusesFind_2 : decode cX12_refusesFind 2 = .ok (.if_icmp .eq 11, 3) := by decide +kernel
theorem dX12_refusesFind_5 : decode cX12_refusesFind 5 = .ok (.aload_n 0, 1) := by decide +kernel
theorem dX12_refusesFind_6 : decode cX12_refusesFind 6 = .ok (.iload_n 1, 1) := by decide +kernel
theorem dX12_refusesFind_7 : decode cX12_refusesFind 7 = .ok (.invokevirtual 149, 3) := by decide +kernel
theorem dX12_refusesFind_10 : decode cX12_refusesFind 10 = .ok (.ifCond .eq 11, 3) := by decide +kernel
theorem dX12_refusesFind_13 : decode cX12_refusesFind 13 = .ok (.aload_n 0, 1) := by decide +kernel
theorem dX12_refusesFind_14 : decode cX12_refusesFind 14 = .ok (.getfield 53, 3) := by decide +kernel
theorem dX12_refusesFind_17 : decode cX12_refusesFind 17 = .ok (.iconst (-1), 1) := by decide +kernel
theorem dX12_refusesFind_18 : decode cX12_refusesFind 18 = .ok (.if_icmp .ne 8, 3) := by decide +kernel
theorem dX12_refusesFind_21 : decode cX12_refusesFind 21 = .ok (.bipush (-5), 2) := by decide +kernel
theorem dX12_refusesFind_23 : decode cX12_refusesFind 23 = .ok (.goto 4, 3) := by decide +kernel
theorem dX12_refusesFind_26 : decode cX12_refusesFind 26 = .ok (.iconst 0, 1) := by decide +kernel
theorem dX12_refusesFind_27 : decode cX12_refusesFind 27 = .ok (.ireturn, 1) := by decide +kernel
theorem dX12_find_0 : decode cX12_find 0 = .ok (.aload_n 0, 1) := by decide +kernel
theorem dX12_find_1 : decode cX12_find 1 = .ok (.iconst 0, 1) := by decide +kernel
theorem dX12_find_2 : decode cX12_find 2 = .ok (.putfield 1, 3) := by decide +kernel
theorem dX12_find_5 : decode cX12_find 5 = .ok (.iload_n 1, 1) := by decide +kernel
theorem dX12_find_6 : decode cX12_find 6 = .ok (.i2l, 1) := by decide +kernel
theorem dX12_find_7 : decode cX12_find 7 = .ok (.ldc2_w 205, 3) := by decide +kernel
theorem dX12_find_10 : decode cX12_find 10 = .ok (.ldc2_w 84, 3) := by decide +kernel
theorem dX12_find_13 : decode cX12_find 13 = .ok (.invokestatic 86, 3) := by decide +kernel
theorem dX12_find_16 : decode cX12_find 16 = .ok (.ifCond .ne 6, 3) := by decide +kernel
theorem dX12_find_19 : decode cX12_find 19 = .ok (.bipush (-2), 2) := by decide +kernel
theorem dX12_find_21 : decode cX12_find 21 = .ok (.ireturn, 1) := by decide +kernel
theorem dX12_find_22 : decode cX12_find 22 = .ok (.aload_n 0, 1) := by decide +kernel
theorem dX12_find_23 : decode cX12_find 23 = .ok (.iload_n 1, 1) := by decide +kernel
theorem dX12_find_24 : decode cX12_find 24 = .ok (.invokevirtual 313, 3) := by decide +kernel
theorem dX12_find_27 : decode cX12_find 27 = .ok (.ifCond .eq 6, 3) := by decide +kernel
theorem dX12_find_30 : decode cX12_find 30 = .ok (.bipush (-5), 2) := by decide +kernel
theorem dX12_find_32 : decode cX12_find 32 = .ok (.ireturn, 1) := by decide +kernel
theorem dX12_find_33 : decode cX12_find 33 = .ok (.aload_n 0, 1) := by decide +kernel
theorem dX12_find_34 : decode cX12_find 34 = .ok (.iload_n 1, 1) := by decide +kernel
theorem dX12_find_35 : decode cX12_find 35 = .ok (.invokevirtual 316, 3) := by decide +kernel
theorem dX12_find_38 : decode cX12_find 38 = .ok (.aload_n 0, 1) := by decide +kernel
theorem dX12_find_39 : decode cX12_find 39 = .ok (.getfield 301, 3) := by decide +kernel
theorem dX12_find_42 : decode cX12_find 42 = .ok (.ireturn, 1) := by decide +kernel
theorem dX12_found_0 : decode cX12_found 0 = .ok (.aload_n 0, 1) := by decide +kernel
theorem dX12_found_1 : decode cX12_found 1 = .ok (.iconst 0, 1) := by decide +kernel
theorem dX12_found_2 : decode cX12_found 2 = .ok (.putfield 1, 3) := by decide +kernel
theorem dX12_found_5 : decode cX12_found 5 = .ok (.iload_n 1, 1) := by decide +kernel
theorem dX12_found_6 : decode cX12_found 6 = .ok (.i2l, 1) := by decide +kernel
theorem dX12_found_7 : decode cX12_found 7 = .ok (.ldc2_w 205, 3) := by decide +kernel
theorem dX12_found_10 : decode cX12_found 10 = .ok (.ldc2_w 84, 3) := by decide +kernel
theorem dX12_found_13 : decode cX12_found 13 = .ok (.invokestatic 86, 3) := by decide +kernel
theorem dX12_found_16 : decode cX12_found 16 = .ok (.ifCond .ne 6, 3) := by decide +kernel
theorem dX12_found_19 : decode cX12_found 19 = .ok (.bipush (-2), 2) := by decide +kernel
theorem dX12_found_21 : decode cX12_found 21 = .ok (.ireturn, 1) := by decide +kernel
theorem dX12_found_22 : decode cX12_found 22 = .ok (.iload_n 2, 1) := by decide +kernel
theorem dX12_found_23 : decode cX12_found 23 = .ok (.ifCond .ge 6, 3) := by decide +kernel
theorem dX12_found_26 : decode cX12_found 26 = .ok (.bipush (-3), 2) := by decide +kernel
theorem dX12_found_28 : decode cX12_found 28 = .ok (.ireturn, 1) := by decide +kernel
theorem dX12_found_29 : decode cX12_found 29 = .ok (.aload_n 0, 1) := by decide +kernel
theorem dX12_found_30 : decode cX12_found 30 = .ok (.iload_n 1, 1) := by decide +kernel
theorem dX12_found_31 : decode cX12_found 31 = .ok (.invokevirtual 313, 3) := by decide +kernel
theorem dX12_found_34 : decode cX12_found 34 = .ok (.ifCond .eq 6, 3) := by decide +kernel
theorem dX12_found_37 : decode cX12_found 37 = .ok (.bipush (-5), 2) := by decide +kernel
theorem dX12_found_39 : decode cX12_found 39 = .ok (.ireturn, 1) := by decide +kernel
theorem dX12_found_40 : decode cX12_found 40 = .ok (.aload_n 0, 1) := by decide +kernel
theorem dX12_found_41 : decode cX12_found 41 = .ok (.iload_n 1, 1) := by decide +kernel
theorem dX12_found_42 : decode cX12_found 42 = .ok (.invokevirtual 316, 3) := by decide +kernel
theorem dX12_found_45 : decode cX12_found 45 = .ok (.iload_n 2, 1) := by decide +kernel
theorem dX12_found_46 : decode cX12_found 46 = .ok (.aload_n 0, 1) := by decide +kernel
theorem dX12_found_47 : decode cX12_found 47 = .ok (.getfield 301, 3) := by decide +kernel
theorem dX12_found_50 : decode cX12_found 50 = .ok (.if_icmp .ge 12, 3) := by decide +kernel
theorem dX12_found_53 : decode cX12_found 53 = .ok (.aload_n 0, 1) := by decide +kernel
theorem dX12_found_54 : decode cX12_found 54 = .ok (.getfield 56, 3) := by decide +kernel
theorem dX12_found_57 : decode cX12_found 57 = .ok (.iload_n 2, 1) := by decide +kernel
theorem dX12_found_58 : decode cX12_found 58 = .ok (.iaload, 1) := by decide +kernel
theorem dX12_found_59 : decode cX12_found 59 = .ok (.goto 4, 3) := by decide +kernel
theorem dX12_found_62 : decode cX12_found 62 = .ok (.iconst (-1), 1) := by decide +kernel
theorem dX12_found_63 : decode cX12_found 63 = .ok (.ireturn, 1) := by decide +kernel
theorem dX12_hasCond_0 : decode cX12_hasCond 0 = .ok (.iconst 0, 1) := by decide +kernel
theorem dX12_hasCond_1 : decode cX12_hasCond 1 = .ok (.istore 4, 2) := by decide +kernel
theorem dX12_hasCond_3 : decode cX12_hasCond 3 = .ok (.iload 4, 2) := by decide +kernel
theorem dX12_hasCond_5 : decode cX12_hasCond 5 = .ok (.aload_n 0, 1) := by decide +kernel
theorem dX12_hasCond_6 : decode cX12_hasCond 6 = .ok (.getfield 53, 3) := by decide +kernel
theorem dX12_hasCond_9 : decode cX12_hasCond 9 = .ok (.if_icmp .ge 46, 3) := by decide +kernel
theorem dX12_hasCond_12 : decode cX12_hasCond 12 = .ok (.aload_n 0, 1) := by decide +kernel
theorem dX12_hasCond_13 : decode cX12_hasCond 13 = .ok (.getfield 44, 3) := by decide +kernel
theorem dX12_hasCond_16 : decode cX12_hasCond 16 = .ok (.iconst 3, 1) := by decide +kernel
theorem dX12_hasCond_17 : decode cX12_hasCond 17 = .ok (.iload 4, 2) := by decide +kernel
theorem dX12_hasCond_19 : decode cX12_hasCond 19 = .ok (.imul, 1) := by decide +kernel
theorem dX12_hasCond_20 : decode cX12_hasCond 20 = .ok (.iaload, 1) := by decide +kernel
theorem dX12_hasCond_21 : decode cX12_hasCond 21 = .ok (.iload_n 1, 1) := by decide +kernel
theorem dX12_hasCond_22 : decode cX12_hasCond 22 = .ok (.if_icmp .ne 27, 3) := by decide +kernel
theorem dX12_hasCond_25 : decode cX12_hasCond 25 = .ok (.aload_n 0, 1) := by decide +kernel
theorem dX12_hasCond_26 : decode cX12_hasCond 26 = .ok (.getfield 44, 3) := by decide +kernel
theorem dX12_hasCond_29 : decode cX12_hasCond 29 = .ok (.iconst 3, 1) := by decide +kernel
theorem dX12_hasCond_30 : decode cX12_hasCond 30 = .ok (.iload 4, 2) := by decide +kernel
theorem dX12_hasCond_32 : decode cX12_hasCond 32 = .ok (.imul, 1) := by decide +kernel
theorem dX12_hasCond_33 : decode cX12_hasCond 33 = .ok (.iconst 1, 1) := by decide +kernel
theorem dX12_hasCond_34 : decode cX12_hasCond 34 = .ok (.iadd, 1) := by decide +kernel
theorem dX12_hasCond_35 : decode cX12_hasCond 35 = .ok (.iaload, 1) := by decide +kernel
theorem dX12_hasCond_36 : decode cX12_hasCond 36 = .ok (.i2l, 1) := by decide +kernel
theorem dX12_hasCond_37 : decode cX12_hasCond 37 = .ok (.iload_n 2, 1) := by decide +kernel
theorem dX12_hasCond_38 : decode cX12_hasCond 38 = .ok (.i2l, 1) := by decide +kernel
theorem dX12_hasCond_39 : decode cX12_hasCond 39 = .ok (.iload_n 3, 1) := by decide +kernel
theorem dX12_hasCond_40 : decode cX12_hasCond 40 = .ok (.i2l, 1) := by decide +kernel
theorem dX12_hasCond_41 : decode cX12_hasCond 41 = .ok (.invokestatic 86, 3) := by decide +kernel
theorem dX12_hasCond_44 : decode cX12_hasCond 44 = .ok (.ifCond .eq 5, 3) := by decide +kernel
theorem dX12_hasCond_47 : decode cX12_hasCond 47 = .ok (.iconst 1, 1) := by decide +kernel
theorem dX12_hasCond_48 : decode cX12_hasCond 48 = .ok (.ireturn, 1) := by decide +kernel
theorem dX12_hasCond_49 : decode cX12_hasCond 49 = .ok (.iinc 4 1, 3) := by decide +kernel
theorem dX12_hasCond_52 : decode cX12_hasCond 52 = .ok (.goto (-49), 3) := by decide +kernel
theorem dX12_hasCond_55 : decode cX12_hasCond 55 = .ok (.iconst 0, 1) := by decide +kernel
theorem dX12_hasCond_56 : decode cX12_hasCond 56 = .ok (.ireturn, 1) := by decide +kernel
theorem dX12_doesServe_0 : decode cX12_doesServe 0 = .ok (.aload_n 0, 1) := by decide +kernel
theorem dX12_doesServe_1 : decode cX12_doesServe 1 = .ok (.iload_n 1, 1) := by decide +kernel
theorem dX12_doesServe_2 : decode cX12_doesServe 2 = .ok (.iconst 0, 1) := by decide +kernel
theorem dX12_doesServe_3 : decode cX12_doesServe 3 = .ok (.invokevirtual 104, 3) := by decide +kernel
theorem dX12_doesServe_6 : decode cX12_doesServe 6 = .ok (.iconst 4, 1) := by decide +kernel
theorem dX12_doesServe_7 : decode cX12_doesServe 7 = .ok (.if_icmp .eq 5, 3) := by decide +kernel
theorem dX12_doesServe_10 : decode cX12_doesServe 10 = .ok (.iconst 0, 1) := by decide +kernel
theorem dX12_doesServe_11 : decode cX12_doesServe 11 = .ok (.ireturn, 1) := by decide +kernel
theorem dX12_doesServe_12 : decode cX12_doesServe 12 = .ok (.aload_n 0, 1) := by decide +kernel
theorem dX12_doesServe_13 : decode cX12_doesServe 13 = .ok (.iload_n 1, 1) := by decide +kernel
theorem dX12_doesServe_14 : decode cX12_doesServe 14 = .ok (.bipush 9, 2) := by decide +kernel
theorem dX12_doesServe_16 : decode cX12_doesServe 16 = .ok (.invokevirtual 104, 3) := by decide +kernel
theorem dX12_doesServe_19 : decode cX12_doesServe 19 = .ok (.istore_n 2, 1) := by decide +kernel
theorem dX12_doesServe_20 : decode cX12_doesServe 20 = .ok (.iload_n 2, 1) := by decide +kernel
theorem dX12_doesServe_21 : decode cX12_doesServe 21 = .ok (.iconst (-1), 1) := by decide +kernel
theorem dX12_doesServe_22 : decode cX12_doesServe 22 = .ok (.if_icmp .ne 7, 3) := by decide +kernel
theorem dX12_doesServe_25 : decode cX12_doesServe 25 = .ok (.iconst 1, 1) := by decide +kernel
theorem dX12_doesServe_26 : decode cX12_doesServe 26 = .ok (.goto 4, 3) := by decide +kernel
theorem dX12_doesServe_29 : decode cX12_doesServe 29 = .ok (.iconst 0, 1) := by decide +kernel
theorem dX12_doesServe_30 : decode cX12_doesServe 30 = .ok (.istore_n 3, 1) := by decide +kernel
theorem dX12_doesServe_31 : decode cX12_doesServe 31 = .ok (.iconst 0, 1) := by decide +kernel
theorem dX12_doesServe_32 : decode cX12_doesServe 32 = .ok (.istore 4, 2) := by decide +kernel
theorem dX12_doesServe_34 : decode cX12_doesServe 34 = .ok (.iload 4, 2) := by decide +kernel
theorem dX12_doesServe_36 : decode cX12_doesServe 36 = .ok (.aload_n 0, 1) := by decide +kernel
theorem dX12_doesServe_37 : decode cX12_doesServe 37 = .ok (.getfield 53, 3) := by decide +kernel
theorem dX12_doesServe_40 : decode cX12_doesServe 40 = .ok (.if_icmp .ge 74, 3) := by decide +kernel
theorem dX12_doesServe_43 : decode cX12_doesServe 43 = .ok (.iload_n 3, 1) := by decide +kernel
theorem dX12_doesServe_44 : decode cX12_doesServe 44 = .ok (.ifCond .ne 58, 3) := by decide +kernel
theorem dX12_doesServe_47 : decode cX12_doesServe 47 = .ok (.aload_n 0, 1) := by decide +kernel
theorem dX12_doesServe_48 : decode cX12_doesServe 48 = .ok (.getfield 44, 3) := by decide +kernel
theorem dX12_doesServe_51 : decode cX12_doesServe 51 = .ok (.iconst 3, 1) := by decide +kernel
theorem dX12_doesServe_52 : decode cX12_doesServe 52 = .ok (.iload 4, 2) := by decide +kernel
theorem dX12_doesServe_54 : decode cX12_doesServe 54 = .ok (.imul, 1) := by decide +kernel
theorem dX12_doesServe_55 : decode cX12_doesServe 55 = .ok (.iaload, 1) := by decide +kernel
theorem dX12_doesServe_56 : decode cX12_doesServe 56 = .ok (.iload_n 2, 1) := by decide +kernel
theorem dX12_doesServe_57 : decode cX12_doesServe 57 = .ok (.if_icmp .ne 49, 3) := by decide +kernel
theorem dX12_doesServe_60 : decode cX12_doesServe 60 = .ok (.aload_n 0, 1) := by decide +kernel
theorem dX12_doesServe_61 : decode cX12_doesServe 61 = .ok (.getfield 44, 3) := by decide +kernel
theorem dX12_doesServe_64 : decode cX12_doesServe 64 = .ok (.iconst 3, 1) := by decide +kernel
theorem dX12_doesServe_65 : decode cX12_doesServe 65 = .ok (.iload 4, 2) := by decide +kernel
theorem dX12_doesServe_67 : decode cX12_doesServe 67 = .ok (.imul, 1) := by decide +kernel
theorem dX12_doesServe_68 : decode cX12_doesServe 68 = .ok (.iconst 1, 1) := by decide +kernel
theorem dX12_doesServe_69 : decode cX12_doesServe 69 = .ok (.iadd, 1) := by decide +kernel
theorem dX12_doesServe_70 : decode cX12_doesServe 70 = .ok (.iaload, 1) := by decide +kernel
theorem dX12_doesServe_71 : decode cX12_doesServe 71 = .ok (.aload_n 0, 1) := by decide +kernel
theorem dX12_doesServe_72 : decode cX12_doesServe 72 = .ok (.iload_n 1, 1) := by decide +kernel
theorem dX12_doesServe_73 : decode cX12_doesServe 73 = .ok (.bipush 10, 2) := by decide +kernel
theorem dX12_doesServe_75 : decode cX12_doesServe 75 = .ok (.invokevirtual 104, 3) := by decide +kernel
theorem dX12_doesServe_78 : decode cX12_doesServe 78 = .ok (.if_icmp .ne 28, 3) := by decide +kernel
theorem dX12_doesServe_81 : decode cX12_doesServe 81 = .ok (.aload_n 0, 1) := by decide +kernel
theorem dX12_doesServe_82 : decode cX12_doesServe 82 = .ok (.getfield 44, 3) := by decide +kernel
theorem dX12_doesServe_85 : decode cX12_doesServe 85 = .ok (.iconst 3, 1) := by decide +kernel
theorem dX12_doesServe_86 : decode cX12_doesServe 86 = .ok (.iload 4, 2) := by decide +kernel
theorem dX12_doesServe_88 : decode cX12_doesServe 88 = .ok (.imul, 1) := by decide +kernel
theorem dX12_doesServe_89 : decode cX12_doesServe 89 = .ok (.iconst 2, 1) := by decide +kernel
theorem dX12_doesServe_90 : decode cX12_doesServe 90 = .ok (.iadd, 1) := by decide +kernel
theorem dX12_doesServe_91 : decode cX12_doesServe 91 = .ok (.iaload, 1) := by decide +kernel
theorem dX12_doesServe_92 : decode cX12_doesServe 92 = .ok (.aload_n 0, 1) := by decide +kernel
theorem dX12_doesServe_93 : decode cX12_doesServe 93 = .ok (.iload_n 1, 1) := by decide +kernel
theorem dX12_doesServe_94 : decode cX12_doesServe 94 = .ok (.bipush 11, 2) := by decide +kernel
theorem dX12_doesServe_96 : decode cX12_doesServe 96 = .ok (.invokevirtual 104, 3) := by decide +kernel
theorem dX12_doesServe_99 : decode cX12_doesServe 99 = .ok (.if_icmp .ne 7, 3) := by decide +kernel
theorem dX12_doesServe_102 : decode cX12_doesServe 102 = .ok (.iconst 1, 1) := by decide +kernel
theorem dX12_doesServe_103 : decode cX12_doesServe 103 = .ok (.goto 4, 3) := by decide +kernel
theorem dX12_doesServe_106 : decode cX12_doesServe 106 = .ok (.iconst 0, 1) := by decide +kernel
theorem dX12_doesServe_107 : decode cX12_doesServe 107 = .ok (.istore_n 3, 1) := by decide +kernel
theorem dX12_doesServe_108 : decode cX12_doesServe 108 = .ok (.iinc 4 1, 3) := by decide +kernel
theorem dX12_doesServe_111 : decode cX12_doesServe 111 = .ok (.goto (-77), 3) := by decide +kernel
theorem dX12_doesServe_114 : decode cX12_doesServe 114 = .ok (.iload_n 3, 1) := by decide +kernel
theorem dX12_doesServe_115 : decode cX12_doesServe 115 = .ok (.ifCond .eq 37, 3) := by decide +kernel
theorem dX12_doesServe_118 : decode cX12_doesServe 118 = .ok (.aload_n 0, 1) := by decide +kernel
theorem dX12_doesServe_119 : decode cX12_doesServe 119 = .ok (.aload_n 0, 1) := by decide +kernel
theorem dX12_doesServe_120 : decode cX12_doesServe 120 = .ok (.iload_n 1, 1) := by decide +kernel
theorem dX12_doesServe_121 : decode cX12_doesServe 121 = .ok (.iconst 0, 1) := by decide +kernel
theorem dX12_doesServe_122 : decode cX12_doesServe 122 = .ok (.invokevirtual 111, 3) := by decide +kernel
theorem dX12_doesServe_125 : decode cX12_doesServe 125 = .ok (.iconst 0, 1) := by decide +kernel
theorem dX12_doesServe_126 : decode cX12_doesServe 126 = .ok (.iconst 0, 1) := by decide +kernel
theorem dX12_doesServe_127 : decode cX12_doesServe 127 = .ok (.invokevirtual 319, 3) := by decide +kernel
theorem dX12_doesServe_130 : decode cX12_doesServe 130 = .ok (.ifCond .ne 18, 3) := by decide +kernel
theorem dX12_doesServe_133 : decode cX12_doesServe 133 = .ok (.aload_n 0, 1) := by decide +kernel
theorem dX12_doesServe_134 : decode cX12_doesServe 134 = .ok (.aload_n 0, 1) := by decide +kernel
theorem dX12_doesServe_135 : decode cX12_doesServe 135 = .ok (.iload_n 1, 1) := by decide +kernel
theorem dX12_doesServe_136 : decode cX12_doesServe 136 = .ok (.iconst 0, 1) := by decide +kernel
theorem dX12_doesServe_137 : decode cX12_doesServe 137 = .ok (.invokevirtual 111, 3) := by decide +kernel
theorem dX12_doesServe_140 : decode cX12_doesServe 140 = .ok (.iconst 2, 1) := by decide +kernel
theorem dX12_doesServe_141 : decode cX12_doesServe 141 = .ok (.iconst 3, 1) := by decide +kernel
theorem dX12_doesServe_142 : decode cX12_doesServe 142 = .ok (.invokevirtual 319, 3) := by decide +kernel
theorem dX12_doesServe_145 : decode cX12_doesServe 145 = .ok (.ifCond .eq 7, 3) := by decide +kernel
theorem dX12_doesServe_148 : decode cX12_doesServe 148 = .ok (.iconst 1, 1) := by decide +kernel
theorem dX12_doesServe_149 : decode cX12_doesServe 149 = .ok (.goto 4, 3) := by decide +kernel
theorem dX12_doesServe_152 : decode cX12_doesServe 152 = .ok (.iconst 0, 1) := by decide +kernel
theorem dX12_doesServe_153 : decode cX12_doesServe 153 = .ok (.ireturn, 1) := by decide +kernel
theorem dX12_laysStretch_0 : decode cX12_laysStretch 0 = .ok (.iconst 0, 1) := by decide +kernel
theorem dX12_laysStretch_1 : decode cX12_laysStretch 1 = .ok (.istore_n 2, 1) := by decide +kernel
theorem dX12_laysStretch_2 : decode cX12_laysStretch 2 = .ok (.iload_n 2, 1) := by decide +kernel
theorem dX12_laysStretch_3 : decode cX12_laysStretch 3 = .ok (.aload_n 0, 1) := by decide +kernel
theorem dX12_laysStretch_4 : decode cX12_laysStretch 4 = .ok (.getfield 53, 3) := by decide +kernel
theorem dX12_laysStretch_7 : decode cX12_laysStretch 7 = .ok (.if_icmp .ge 16, 3) := by decide +kernel
theorem dX12_laysStretch_10 : decode cX12_laysStretch 10 = .ok (.aload_n 0, 1) := by decide +kernel
theorem dX12_laysStretch_11 : decode cX12_laysStretch 11 = .ok (.getfield 59, 3) := by decide +kernel
theorem dX12_laysStretch_14 : decode cX12_laysStretch 14 = .ok (.iload_n 2, 1) := by decide +kernel
theorem dX12_laysStretch_15 : decode cX12_laysStretch 15 = .ok (.iconst 0, 1) := by decide +kernel
theorem dX12_laysStretch_16 : decode cX12_laysStretch 16 = .ok (.bastore, 1) := by decide +kernel
theorem dX12_laysStretch_17 : decode cX12_laysStretch 17 = .ok (.iinc 2 1, 3) := by decide +kernel
theorem dX12_laysStretch_20 : decode cX12_laysStretch 20 = .ok (.goto (-18), 3) := by decide +kernel
theorem dX12_laysStretch_23 : decode cX12_laysStretch 23 = .ok (.aload_n 0, 1) := by decide +kernel
theorem dX12_laysStretch_24 : decode cX12_laysStretch 24 = .ok (.iconst 0, 1) := by decide +kernel
theorem dX12_laysStretch_25 : decode cX12_laysStretch 25 = .ok (.putfield 322, 3) := by decide +kernel
theorem dX12_laysStretch_28 : decode cX12_laysStretch 28 = .ok (.iconst 1, 1) := by decide +kernel
theorem dX12_laysStretch_29 : decode cX12_laysStretch 29 = .ok (.istore_n 2, 1) := by decide +kernel
theorem dX12_laysStretch_30 : decode cX12_laysStretch 30 = .ok (.iconst 0, 1) := by decide +kernel
theorem dX12_laysStretch_31 : decode cX12_laysStretch 31 = .ok (.istore_n 3, 1) := by decide +kernel
theorem dX12_laysStretch_32 : decode cX12_laysStretch 32 = .ok (.iload_n 3, 1) := by decide +kernel
theorem dX12_laysStretch_33 : decode cX12_laysStretch 33 = .ok (.aload_n 0, 1) := by decide +kernel
theorem dX12_laysStretch_34 : decode cX12_laysStretch 34 = .ok (.iload_n 1, 1) := by decide +kernel
theorem dX12_laysStretch_35 : decode cX12_laysStretch 35 = .ok (.iconst 5, 1) := by decide +kernel
theorem dX12_laysStretch_36 : decode cX12_laysStretch 36 = .ok (.invokevirtual 104, 3) := by decide +kernel
theorem dX12_laysStretch_39 : decode cX12_laysStretch 39 = .ok (.if_icmp .ge 98, 3) := by decide +kernel
theorem dX12_laysStretch_42 : decode cX12_laysStretch 42 = .ok (.iload_n 2, 1) := by decide +kernel
theorem dX12_laysStretch_43 : decode cX12_laysStretch 43 = .ok (.ifCond .eq 94, 3) := by decide +kernel
theorem dX12_laysStretch_46 : decode cX12_laysStretch 46 = .ok (.aload_n 0, 1) := by decide +kernel
theorem dX12_laysStretch_47 : decode cX12_laysStretch 47 = .ok (.iload_n 1, 1) := by decide +kernel
theorem dX12_laysStretch_48 : decode cX12_laysStretch 48 = .ok (.iload_n 3, 1) := by decide +kernel
theorem dX12_laysStretch_49 : decode cX12_laysStretch 49 = .ok (.invokevirtual 111, 3) := by decide +kernel
theorem dX12_laysStretch_52 : decode cX12_laysStretch 52 = .ok (.istore 4, 2) := by decide +kernel
theorem dX12_laysStretch_54 : decode cX12_laysStretch 54 = .ok (.aload_n 0, 1) := by decide +kernel
theorem dX12_laysStretch_55 : decode cX12_laysStretch 55 = .ok (.iload 4, 2) := by decide +kernel
theorem dX12_laysStretch_57 : decode cX12_laysStretch 57 = .ok (.iconst 0, 1) := by decide +kernel
theorem dX12_laysStretch_58 : decode cX12_laysStretch 58 = .ok (.iconst 0, 1) := by decide +kernel
theorem dX12_laysStretch_59 : decode cX12_laysStretch 59 = .ok (.invokevirtual 319, 3) := by decide +kernel
theorem dX12_laysStretch_62 : decode cX12_laysStretch 62 = .ok (.istore_n 2, 1) := by decide +kernel
theorem dX12_laysStretch_63 : decode cX12_laysStretch 63 = .ok (.iconst 0, 1) := by decide +kernel
theorem dX12_laysStretch_64 : decode cX12_laysStretch 64 = .ok (.istore 5, 2) := by decide +kernel
theorem dX12_laysStretch_66 : decode cX12_laysStretch 66 = .ok (.iload 5, 2) := by decide +kernel
theorem dX12_laysStretch_68 : decode cX12_laysStretch 68 = .ok (.aload_n 0, 1) := by decide +kernel
theorem dX12_laysStretch_69 : decode cX12_laysStretch 69 = .ok (.getfield 53, 3) := by decide +kernel
theorem dX12_laysStretch_72 : decode cX12_laysStretch 72 = .ok (.if_icmp .ge 59, 3) := by decide +kernel
theorem dX12_laysStretch_75 : decode cX12_laysStretch 75 = .ok (.aload_n 0, 1) := by decide +kernel
theorem dX12_laysStretch_76 : decode cX12_laysStretch 76 = .ok (.getfield 44, 3) := by decide +kernel
theorem dX12_laysStretch_79 : decode cX12_laysStretch 79 = .ok (.iconst 3, 1) := by decide +kernel
theorem dX12_laysStretch_80 : decode cX12_laysStretch 80 = .ok (.iload 5, 2) := by decide +kernel
theorem dX12_laysStretch_82 : decode cX12_laysStretch 82 = .ok (.imul, 1) := by decide +kernel
theorem dX12_laysStretch_83 : decode cX12_laysStretch 83 = .ok (.iaload, 1) := by decide +kernel
theorem dX12_laysStretch_84 : decode cX12_laysStretch 84 = .ok (.iload 4, 2) := by decide +kernel
theorem dX12_laysStretch_86 : decode cX12_laysStretch 86 = .ok (.if_icmp .ne 39, 3) := by decide +kernel
theorem dX12_laysStretch_89 : decode cX12_laysStretch 89 = .ok (.aload_n 0, 1) := by decide +kernel
theorem dX12_laysStretch_90 : decode cX12_laysStretch 90 = .ok (.getfield 44, 3) := by decide +kernel
theorem dX12_laysStretch_93 : decode cX12_laysStretch 93 = .ok (.iconst 3, 1) := by decide +kernel
theorem dX12_laysStretch_94 : decode cX12_laysStretch 94 = .ok (.iload 5, 2) := by decide +kernel
theorem dX12_laysStretch_96 : decode cX12_laysStretch 96 = .ok (.imul, 1) := by decide +kernel
theorem dX12_laysStretch_97 : decode cX12_laysStretch 97 = .ok (.iconst 1, 1) := by decide +kernel
theorem dX12_laysStretch_98 : decode cX12_laysStretch 98 = .ok (.iadd, 1) := by decide +kernel
theorem dX12_laysStretch_99 : decode cX12_laysStretch 99 = .ok (.iaload, 1) := by decide +kernel
theorem dX12_laysStretch_100 : decode cX12_laysStretch 100 = .ok (.iconst 1, 1) := by decide +kernel
theorem dX12_laysStretch_101 : decode cX12_laysStretch 101 = .ok (.if_icmp .ne 6, 3) := by decide +kernel
theorem dX12_laysStretch_104 : decode cX12_laysStretch 104 = .ok (.goto 21, 3) := by decide +kernel
theorem dX12_laysStretch_107 : decode cX12_laysStretch 107 = .ok (.aload_n 0, 1) := by decide +kernel
theorem dX12_laysStretch_108 : decode cX12_laysStretch 108 = .ok (.getfield 59, 3) := by decide +kernel
theorem dX12_laysStretch_111 : decode cX12_laysStretch 111 = .ok (.iload 5, 2) := by decide +kernel
theorem dX12_laysStretch_113 : decode cX12_laysStretch 113 = .ok (.iconst 1, 1) := by decide +kernel
theorem dX12_laysStretch_114 : decode cX12_laysStretch 114 = .ok (.bastore, 1) := by decide +kernel
theorem dX12_laysStretch_115 : decode cX12_laysStretch 115 = .ok (.aload_n 0, 1) := by decide +kernel
theorem dX12_laysStretch_116 : decode cX12_laysStretch 116 = .ok (.dup, 1) := by decide +kernel
theorem dX12_laysStretch_117 : decode cX12_laysStretch 117 = .ok (.getfield 322, 3) := by decide +kernel
theorem dX12_laysStretch_120 : decode cX12_laysStretch 120 = .ok (.iconst 1, 1) := by decide +kernel
theorem dX12_laysStretch_121 : decode cX12_laysStretch 121 = .ok (.iadd, 1) := by decide +kernel
theorem dX12_laysStretch_122 : decode cX12_laysStretch 122 = .ok (.putfield 322, 3) := by decide +kernel
theorem dX12_laysStretch_125 : decode cX12_laysStretch 125 = .ok (.iinc 5 1, 3) := by decide +kernel
theorem dX12_laysStretch_128 : decode cX12_laysStretch 128 = .ok (.goto (-62), 3) := by decide +kernel
theorem dX12_laysStretch_131 : decode cX12_laysStretch 131 = .ok (.iinc 3 1, 3) := by decide +kernel
theorem dX12_laysStretch_134 : decode cX12_laysStretch 134 = .ok (.goto (-102), 3) := by decide +kernel
theorem dX12_laysStretch_137 : decode cX12_laysStretch 137 = .ok (.return_, 1) := by decide +kernel
theorem dX12_partBy_0 : decode cX12_partBy 0 = .ok (.iconst 0, 1) := by decide +kernel
theorem dX12_partBy_1 : decode cX12_partBy 1 = .ok (.istore_n 3, 1) := by decide +kernel
theorem dX12_partBy_2 : decode cX12_partBy 2 = .ok (.aload_n 0, 1) := by decide +kernel
theorem dX12_partBy_3 : decode cX12_partBy 3 = .ok (.iload_n 1, 1) := by decide +kernel
theorem dX12_partBy_4 : decode cX12_partBy 4 = .ok (.iload_n 3, 1) := by decide +kernel
theorem dX12_partBy_5 : decode cX12_partBy 5 = .ok (.invokevirtual 111, 3) := by decide +kernel
theorem dX12_partBy_8 : decode cX12_partBy 8 = .ok (.iload_n 2, 1) := by decide +kernel
theorem dX12_partBy_9 : decode cX12_partBy 9 = .ok (.if_icmp .eq 9, 3) := by decide +kernel
theorem dX12_partBy_12 : decode cX12_partBy 12 = .ok (.iinc 3 1, 3) := by decide +kernel
theorem dX12_partBy_15 : decode cX12_partBy 15 = .ok (.goto (-13), 3) := by decide +kernel
theorem dX12_partBy_18 : decode cX12_partBy 18 = .ok (.iload_n 3, 1) := by decide +kernel
theorem dX12_partBy_19 : decode cX12_partBy 19 = .ok (.ireturn, 1) := by decide +kernel
theorem dX12_readsBy_0 : decode cX12_readsBy 0 = .ok (.aload_n 0, 1) := by decide +kernel
theorem dX12_readsBy_1 : decode cX12_readsBy 1 = .ok (.iload_n 1, 1) := by decide +kernel
theorem dX12_readsBy_2 : decode cX12_readsBy 2 = .ok (.invokevirtual 325, 3) := by decide +kernel
theorem dX12_readsBy_5 : decode cX12_readsBy 5 = .ok (.iconst 1, 1) := by decide +kernel
theorem dX12_readsBy_6 : decode cX12_readsBy 6 = .ok (.istore_n 2, 1) := by decide +kernel
theorem dX12_readsBy_7 : decode cX12_readsBy 7 = .ok (.iconst 0, 1) := by decide +kernel
theorem dX12_readsBy_8 : decode cX12_readsBy 8 = .ok (.istore_n 3, 1) := by decide +kernel
theorem dX12_readsBy_9 : decode cX12_readsBy 9 = .ok (.iload_n 3, 1) := by decide +kernel
theorem dX12_readsBy_10 : decode cX12_readsBy 10 = .ok (.aload_n 0, 1) := by decide +kernel
theorem dX12_readsBy_11 : decode cX12_readsBy 11 = .ok (.iload_n 1, 1) := by decide +kernel
theorem dX12_readsBy_12 : decode cX12_readsBy 12 = .ok (.bipush 13, 2) := by decide +kernel
theorem dX12_readsBy_14 : decode cX12_readsBy 14 = .ok (.invokevirtual 104, 3) := by decide +kernel
theorem dX12_readsBy_17 : decode cX12_readsBy 17 = .ok (.if_icmp .ge 121, 3) := by decide +kernel
theorem dX12_readsBy_20 : decode cX12_readsBy 20 = .ok (.iconst 1, 1) := by decide +kernel
theorem dX12_readsBy_21 : decode cX12_readsBy 21 = .ok (.istore 4, 2) := by decide +kernel
theorem dX12_readsBy_23 : decode cX12_readsBy 23 = .ok (.iconst 0, 1) := by decide +kernel
theorem dX12_readsBy_24 : decode cX12_readsBy 24 = .ok (.istore 5, 2) := by decide +kernel
theorem dX12_readsBy_26 : decode cX12_readsBy 26 = .ok (.iload 5, 2) := by decide +kernel
theorem dX12_readsBy_28 : decode cX12_readsBy 28 = .ok (.aload_n 0, 1) := by decide +kernel
theorem dX12_readsBy_29 : decode cX12_readsBy 29 = .ok (.getfield 53, 3) := by decide +kernel
theorem dX12_readsBy_32 : decode cX12_readsBy 32 = .ok (.if_icmp .ge 87, 3) := by decide +kernel
theorem dX12_readsBy_35 : decode cX12_readsBy 35 = .ok (.aload_n 0, 1) := by decide +kernel
theorem dX12_readsBy_36 : decode cX12_readsBy 36 = .ok (.getfield 59, 3) := by decide +kernel
theorem dX12_readsBy_39 : decode cX12_readsBy 39 = .ok (.iload 5, 2) := by decide +kernel
theorem dX12_readsBy_41 : decode cX12_readsBy 41 = .ok (.baload, 1) := by decide +kernel
theorem dX12_readsBy_42 : decode cX12_readsBy 42 = .ok (.ifCond .eq 71, 3) := by decide +kernel
theorem dX12_readsBy_45 : decode cX12_readsBy 45 = .ok (.iload 4, 2) := by decide +kernel
theorem dX12_readsBy_47 : decode cX12_readsBy 47 = .ok (.ifCond .eq 63, 3) := by decide +kernel
theorem dX12_readsBy_50 : decode cX12_readsBy 50 = .ok (.aload_n 0, 1) := by decide +kernel
theorem dX12_readsBy_51 : decode cX12_readsBy 51 = .ok (.getfield 44, 3) := by decide +kernel
theorem dX12_readsBy_54 : decode cX12_readsBy 54 = .ok (.iconst 3, 1) := by decide +kernel
theorem dX12_readsBy_55 : decode cX12_readsBy 55 = .ok (.iload 5, 2) := by decide +kernel
theorem dX12_readsBy_57 : decode cX12_readsBy 57 = .ok (.imul, 1) := by decide +kernel
theorem dX12_readsBy_58 : decode cX12_readsBy 58 = .ok (.iconst 1, 1) := by decide +kernel
theorem dX12_readsBy_59 : decode cX12_readsBy 59 = .ok (.iadd, 1) := by decide +kernel
theorem dX12_readsBy_60 : decode cX12_readsBy 60 = .ok (.iaload, 1) := by decide +kernel
theorem dX12_readsBy_61 : decode cX12_readsBy 61 = .ok (.aload_n 0, 1) := by decide +kernel
theorem dX12_readsBy_62 : decode cX12_readsBy 62 = .ok (.getfield 13, 3) := by decide +kernel
theorem dX12_readsBy_65 : decode cX12_readsBy 65 = .ok (.aload_n 0, 1) := by decide +kernel
theorem dX12_readsBy_66 : decode cX12_readsBy 66 = .ok (.iload_n 1, 1) := by decide +kernel
theorem dX12_readsBy_67 : decode cX12_readsBy 67 = .ok (.iload_n 3, 1) := by decide +kernel
theorem dX12_readsBy_68 : decode cX12_readsBy 68 = .ok (.invokevirtual 118, 3) := by decide +kernel
theorem dX12_readsBy_71 : decode cX12_readsBy 71 = .ok (.iconst 1, 1) := by decide +kernel
theorem dX12_readsBy_72 : decode cX12_readsBy 72 = .ok (.iadd, 1) := by decide +kernel
theorem dX12_readsBy_73 : decode cX12_readsBy 73 = .ok (.aload_n 0, 1) := by decide +kernel
theorem dX12_readsBy_74 : decode cX12_readsBy 74 = .ok (.iload_n 1, 1) := by decide +kernel
theorem dX12_readsBy_75 : decode cX12_readsBy 75 = .ok (.aload_n 0, 1) := by decide +kernel
theorem dX12_readsBy_76 : decode cX12_readsBy 76 = .ok (.getfield 44, 3) := by decide +kernel
theorem dX12_readsBy_79 : decode cX12_readsBy 79 = .ok (.iconst 3, 1) := by decide +kernel
theorem dX12_readsBy_80 : decode cX12_readsBy 80 = .ok (.iload 5, 2) := by decide +kernel
theorem dX12_readsBy_82 : decode cX12_readsBy 82 = .ok (.imul, 1) := by decide +kernel
theorem dX12_readsBy_83 : decode cX12_readsBy 83 = .ok (.iaload, 1) := by decide +kernel
theorem dX12_readsBy_84 : decode cX12_readsBy 84 = .ok (.invokevirtual 328, 3) := by decide +kernel
theorem dX12_readsBy_87 : decode cX12_readsBy 87 = .ok (.iadd, 1) := by decide +kernel
theorem dX12_readsBy_88 : decode cX12_readsBy 88 = .ok (.iaload, 1) := by decide +kernel
theorem dX12_readsBy_89 : decode cX12_readsBy 89 = .ok (.aload_n 0, 1) := by decide +kernel
theorem dX12_readsBy_90 : decode cX12_readsBy 90 = .ok (.getfield 44, 3) := by decide +kernel
theorem dX12_readsBy_93 : decode cX12_readsBy 93 = .ok (.iconst 3, 1) := by decide +kernel
theorem dX12_readsBy_94 : decode cX12_readsBy 94 = .ok (.iload 5, 2) := by decide +kernel
theorem dX12_readsBy_96 : decode cX12_readsBy 96 = .ok (.imul, 1) := by decide +kernel
theorem dX12_readsBy_97 : decode cX12_readsBy 97 = .ok (.iconst 2, 1) := by decide +kernel
theorem dX12_readsBy_98 : decode cX12_readsBy 98 = .ok (.iadd, 1) := by decide +kernel
theorem dX12_readsBy_99 : decode cX12_readsBy 99 = .ok (.iaload, 1) := by decide +kernel
theorem dX12_readsBy_100 : decode cX12_readsBy 100 = .ok (.invokestatic 107, 3) := by decide +kernel
theorem dX12_readsBy_103 : decode cX12_readsBy 103 = .ok (.ifCond .eq 7, 3) := by decide +kernel
theorem dX12_readsBy_106 : decode cX12_readsBy 106 = .ok (.iconst 1, 1) := by decide +kernel
theorem dX12_readsBy_107 : decode cX12_readsBy 107 = .ok (.goto 4, 3) := by decide +kernel
theorem dX12_readsBy_110 : decode cX12_readsBy 110 = .ok (.iconst 0, 1) := by decide +kernel
theorem dX12_readsBy_111 : decode cX12_readsBy 111 = .ok (.istore 4, 2) := by decide +kernel
theorem dX12_readsBy_113 : decode cX12_readsBy 113 = .ok (.iinc 5 1, 3) := by decide +kernel
theorem dX12_readsBy_116 : decode cX12_readsBy 116 = .ok (.goto (-90), 3) := by decide +kernel
theorem dX12_readsBy_119 : decode cX12_readsBy 119 = .ok (.iload_n 2, 1) := by decide +kernel
theorem dX12_readsBy_120 : decode cX12_readsBy 120 = .ok (.iload 4, 2) := by decide +kernel
theorem dX12_readsBy_122 : decode cX12_readsBy 122 = .ok (.ifCond .eq 7, 3) := by decide +kernel
theorem dX12_readsBy_125 : decode cX12_readsBy 125 = .ok (.iconst 1, 1) := by decide +kernel
theorem dX12_readsBy_126 : decode cX12_readsBy 126 = .ok (.goto 4, 3) := by decide +kernel
theorem dX12_readsBy_129 : decode cX12_readsBy 129 = .ok (.iconst 0, 1) := by decide +kernel
theorem dX12_readsBy_130 : decode cX12_readsBy 130 = .ok (.iadd, 1) := by decide +kernel
theorem dX12_readsBy_131 : decode cX12_readsBy 131 = .ok (.istore_n 2, 1) := by decide +kernel
theorem dX12_readsBy_132 : decode cX12_readsBy 132 = .ok (.iinc 3 1, 3) := by decide +kernel
theorem dX12_readsBy_135 : decode cX12_readsBy 135 = .ok (.goto (-126), 3) := by decide +kernel
theorem dX12_readsBy_138 : decode cX12_readsBy 138 = .ok (.iload_n 2, 1) := by decide +kernel
theorem dX12_readsBy_139 : decode cX12_readsBy 139 = .ok (.ireturn, 1) := by decide +kernel
theorem dX12_serving_0 : decode cX12_serving 0 = .ok (.iconst 0, 1) := by decide +kernel
theorem dX12_serving_1 : decode cX12_serving 1 = .ok (.istore_n 1, 1) := by decide +kernel
theorem dX12_serving_2 : decode cX12_serving 2 = .ok (.iconst 0, 1) := by decide +kernel
theorem dX12_serving_3 : decode cX12_serving 3 = .ok (.istore_n 2, 1) := by decide +kernel
theorem dX12_serving_4 : decode cX12_serving 4 = .ok (.iload_n 2, 1) := by decide +kernel
theorem dX12_serving_5 : decode cX12_serving 5 = .ok (.iconst 2, 1) := by decide +kernel
theorem dX12_serving_6 : decode cX12_serving 6 = .ok (.if_icmp .ge 27, 3) := by decide +kernel
theorem dX12_serving_9 : decode cX12_serving 9 = .ok (.iload_n 1, 1) := by decide +kernel
theorem dX12_serving_10 : decode cX12_serving 10 = .ok (.aload_n 0, 1) := by decide +kernel
theorem dX12_serving_11 : decode cX12_serving 11 = .ok (.iload_n 2, 1) := by decide +kernel
theorem dX12_serving_12 : decode cX12_serving 12 = .ok (.invokevirtual 331, 3) := by decide +kernel
theorem dX12_serving_15 : decode cX12_serving 15 = .ok (.ifCond .eq 9, 3) := by decide +kernel
theorem dX12_serving_18 : decode cX12_serving 18 = .ok (.iconst 1, 1) := by decide +kernel
theorem dX12_serving_19 : decode cX12_serving 19 = .ok (.iload_n 2, 1) := by decide +kernel
theorem dX12_serving_20 : decode cX12_serving 20 = .ok (.ishl, 1) := by decide +kernel
theorem dX12_serving_21 : decode cX12_serving 21 = .ok (.goto 4, 3) := by decide +kernel
theorem dX12_serving_24 : decode cX12_serving 24 = .ok (.iconst 0, 1) := by decide +kernel
theorem dX12_serving_25 : decode cX12_serving 25 = .ok (.ior, 1) := by decide +kernel
theorem dX12_serving_26 : decode cX12_serving 26 = .ok (.istore_n 1, 1) := by decide +kernel
theorem dX12_serving_27 : decode cX12_serving 27 = .ok (.iinc 2 1, 3) := by decide +kernel
theorem dX12_serving_30 : decode cX12_serving 30 = .ok (.goto (-26), 3) := by decide +kernel
theorem dX12_serving_33 : decode cX12_serving 33 = .ok (.iload_n 1, 1) := by decide +kernel
theorem dX12_serving_34 : decode cX12_serving 34 = .ok (.ireturn, 1) := by decide +kernel
theorem dX12_isSorted_0 : decode cX12_isSorted 0 = .ok (.aload_n 0, 1) := by decide +kernel
theorem dX12_isSorted_1 : decode cX12_isSorted 1 = .ok (.getfield 298, 3) := by decide +kernel
theorem dX12_isSorted_4 : decode cX12_isSorted 4 = .ok (.ifCond .ne 5, 3) := by decide +kernel
theorem dX12_isSorted_7 : decode cX12_isSorted 7 = .ok (.iconst 1, 1) := by decide +kernel
theorem dX12_isSorted_8 : decode cX12_isSorted 8 = .ok (.ireturn, 1) := by decide +kernel
theorem dX12_isSorted_9 : decode cX12_isSorted 9 = .ok (.iload_n 1, 1) := by decide +kernel
theorem dX12_isSorted_10 : decode cX12_isSorted 10 = .ok (.iconst (-1), 1) := by decide +kernel
theorem dX12_isSorted_11 : decode cX12_isSorted 11 = .ok (.if_icmp .eq 16, 3) := by decide +kernel
theorem dX12_isSorted_14 : decode cX12_isSorted 14 = .ok (.aload_n 0, 1) := by decide +kernel
theorem dX12_isSorted_15 : decode cX12_isSorted 15 = .ok (.iload_n 1, 1) := by decide +kernel
theorem dX12_isSorted_16 : decode cX12_isSorted 16 = .ok (.iconst 5, 1) := by decide +kernel
theorem dX12_isSorted_17 : decode cX12_isSorted 17 = .ok (.invokevirtual 104, 3) := by decide +kernel
theorem dX12_isSorted_20 : decode cX12_isSorted 20 = .ok (.aload_n 0, 1) := by decide +kernel
theorem dX12_isSorted_21 : decode cX12_isSorted 21 = .ok (.getfield 298, 3) := by decide +kernel
theorem dX12_isSorted_24 : decode cX12_isSorted 24 = .ok (.if_icmp .ge 5, 3) := by decide +kernel
theorem dX12_isSorted_27 : decode cX12_isSorted 27 = .ok (.iconst 0, 1) := by decide +kernel
theorem dX12_isSorted_28 : decode cX12_isSorted 28 = .ok (.ireturn, 1) := by decide +kernel
theorem dX12_isSorted_29 : decode cX12_isSorted 29 = .ok (.iconst 0, 1) := by decide +kernel
theorem dX12_isSorted_30 : decode cX12_isSorted 30 = .ok (.istore_n 2, 1) := by decide +kernel
theorem dX12_isSorted_31 : decode cX12_isSorted 31 = .ok (.iload_n 2, 1) := by decide +kernel
theorem dX12_isSorted_32 : decode cX12_isSorted 32 = .ok (.aload_n 0, 1) := by decide +kernel
theorem dX12_isSorted_33 : decode cX12_isSorted 33 = .ok (.getfield 298, 3) := by decide +kernel
theorem dX12_isSorted_36 : decode cX12_isSorted 36 = .ok (.if_icmp .ge 29, 3) := by decide +kernel
theorem dX12_isSorted_39 : decode cX12_isSorted 39 = .ok (.aload_n 0, 1) := by decide +kernel
theorem dX12_isSorted_40 : decode cX12_isSorted 40 = .ok (.iload_n 1, 1) := by decide +kernel
theorem dX12_isSorted_41 : decode cX12_isSorted 41 = .ok (.bipush 6, 2) := by decide +kernel
theorem dX12_isSorted_43 : decode cX12_isSorted 43 = .ok (.iload_n 2, 1) := by decide +kernel
theorem dX12_isSorted_44 : decode cX12_isSorted 44 = .ok (.iadd, 1) := by decide +kernel
theorem dX12_isSorted_45 : decode cX12_isSorted 45 = .ok (.invokevirtual 104, 3) := by decide +kernel
theorem dX12_isSorted_48 : decode cX12_isSorted 48 = .ok (.aload_n 0, 1) := by decide +kernel
theorem dX12_isSorted_49 : decode cX12_isSorted 49 = .ok (.getfield 47, 3) := by decide +kernel
theorem dX12_isSorted_52 : decode cX12_isSorted 52 = .ok (.iload_n 2, 1) := by decide +kernel
theorem dX12_isSorted_53 : decode cX12_isSorted 53 = .ok (.iaload, 1) := by decide +kernel
theorem dX12_isSorted_54 : decode cX12_isSorted 54 = .ok (.if_icmp .eq 5, 3) := by decide +kernel
theorem dX12_isSorted_57 : decode cX12_isSorted 57 = .ok (.iconst 0, 1) := by decide +kernel
theorem dX12_isSorted_58 : decode cX12_isSorted 58 = .ok (.ireturn, 1) := by decide +kernel
theorem dX12_isSorted_59 : decode cX12_isSorted 59 = .ok (.iinc 2 1, 3) := by decide +kernel
theorem dX12_isSorted_62 : decode cX12_isSorted 62 = .ok (.goto (-31), 3) := by decide +kernel
theorem dX12_isSorted_65 : decode cX12_isSorted 65 = .ok (.iconst 1, 1) := by decide +kernel
theorem dX12_isSorted_66 : decode cX12_isSorted 66 = .ok (.ireturn, 1) := by decide +kernel
theorem dX12_plan_0 : decode cX12_plan 0 = .ok (.aload_n 0, 1) := by decide +kernel
theorem dX12_plan_1 : decode cX12_plan 1 = .ok (.iconst 0, 1) := by decide +kernel
theorem dX12_plan_2 : decode cX12_plan 2 = .ok (.putfield 1, 3) := by decide +kernel
theorem dX12_plan_5 : decode cX12_plan 5 = .ok (.iload_n 1, 1) := by decide +kernel
theorem dX12_plan_6 : decode cX12_plan 6 = .ok (.i2l, 1) := by decide +kernel
theorem dX12_plan_7 : decode cX12_plan 7 = .ok (.lconst 0, 1) := by decide +kernel
theorem dX12_plan_8 : decode cX12_plan 8 = .ok (.ldc2_w 285, 3) := by decide +kernel
theorem dX12_plan_11 : decode cX12_plan 11 = .ok (.invokestatic 86, 3) := by decide +kernel
theorem dX12_plan_14 : decode cX12_plan 14 = .ok (.ifCond .ne 6, 3) := by decide +kernel
theorem dX12_plan_17 : decode cX12_plan 17 = .ok (.bipush (-2), 2) := by decide +kernel
theorem dX12_plan_19 : decode cX12_plan 19 = .ok (.ireturn, 1) := by decide +kernel
theorem dX12_plan_20 : decode cX12_plan 20 = .ok (.aload_n 0, 1) := by decide +kernel
theorem dX12_plan_21 : decode cX12_plan 21 = .ok (.getfield 53, 3) := by decide +kernel
theorem dX12_plan_24 : decode cX12_plan 24 = .ok (.iconst (-1), 1) := by decide +kernel
theorem dX12_plan_25 : decode cX12_plan 25 = .ok (.if_icmp .ne 6, 3) := by decide +kernel
theorem dX12_plan_28 : decode cX12_plan 28 = .ok (.bipush (-5), 2) := by decide +kernel
theorem dX12_plan_30 : decode cX12_plan 30 = .ok (.ireturn, 1) := by decide +kernel
theorem dX12_plan_31 : decode cX12_plan 31 = .ok (.iconst (-1), 1) := by decide +kernel
theorem dX12_plan_32 : decode cX12_plan 32 = .ok (.istore_n 2, 1) := by decide +kernel
theorem dX12_plan_33 : decode cX12_plan 33 = .ok (.aload_n 0, 1) := by decide +kernel
theorem dX12_plan_34 : decode cX12_plan 34 = .ok (.invokevirtual 334, 3) := by decide +kernel
theorem dX12_plan_37 : decode cX12_plan 37 = .ok (.istore_n 3, 1) := by decide +kernel
theorem dX12_plan_38 : decode cX12_plan 38 = .ok (.iconst 0, 1) := by decide +kernel
theorem dX12_plan_39 : decode cX12_plan 39 = .ok (.istore 4, 2) := by decide +kernel
theorem dX12_plan_41 : decode cX12_plan 41 = .ok (.iload 4, 2) := by decide +kernel
theorem dX12_plan_43 : decode cX12_plan 43 = .ok (.iconst 2, 1) := by decide +kernel
theorem dX12_plan_44 : decode cX12_plan 44 = .ok (.if_icmp .ge 41, 3) := by decide +kernel
theorem dX12_plan_47 : decode cX12_plan 47 = .ok (.aload_n 0, 1) := by decide +kernel
theorem dX12_plan_48 : decode cX12_plan 48 = .ok (.iload 4, 2) := by decide +kernel
theorem dX12_plan_50 : decode cX12_plan 50 = .ok (.invokevirtual 331, 3) := by decide +kernel
theorem dX12_plan_53 : decode cX12_plan 53 = .ok (.ifCond .eq 26, 3) := by decide +kernel
theorem dX12_plan_56 : decode cX12_plan 56 = .ok (.aload_n 0, 1) := by decide +kernel
theorem dX12_plan_57 : decode cX12_plan 57 = .ok (.iload 4, 2) := by decide +kernel
theorem dX12_plan_59 : decode cX12_plan 59 = .ok (.invokevirtual 337, 3) := by decide +kernel
theorem dX12_plan_62 : decode cX12_plan 62 = .ok (.iload_n 3, 1) := by decide +kernel
theorem dX12_plan_63 : decode cX12_plan 63 = .ok (.if_icmp .lt 6, 3) := by decide +kernel
theorem dX12_plan_66 : decode cX12_plan 66 = .ok (.goto 13, 3) := by decide +kernel
theorem dX12_plan_69 : decode cX12_plan 69 = .ok (.iload 4, 2) := by decide +kernel
theorem dX12_plan_71 : decode cX12_plan 71 = .ok (.istore_n 2, 1) := by decide +kernel
theorem dX12_plan_72 : decode cX12_plan 72 = .ok (.aload_n 0, 1) := by decide +kernel
theorem dX12_plan_73 : decode cX12_plan 73 = .ok (.iload 4, 2) := by decide +kernel
theorem dX12_plan_75 : decode cX12_plan 75 = .ok (.invokevirtual 337, 3) := by decide +kernel
theorem dX12_plan_78 : decode cX12_plan 78 = .ok (.istore_n 3, 1) := by decide +kernel
theorem dX12_plan_79 : decode cX12_plan 79 = .ok (.iinc 4 1, 3) := by decide +kernel
theorem dX12_plan_82 : decode cX12_plan 82 = .ok (.goto (-41), 3) := by decide +kernel
theorem dX12_plan_85 : decode cX12_plan 85 = .ok (.aload_n 0, 1) := by decide +kernel
theorem dX12_plan_86 : decode cX12_plan 86 = .ok (.iconst 0, 1) := by decide +kernel
theorem dX12_plan_87 : decode cX12_plan 87 = .ok (.putfield 322, 3) := by decide +kernel
theorem dX12_plan_90 : decode cX12_plan 90 = .ok (.iload_n 2, 1) := by decide +kernel
theorem dX12_plan_91 : decode cX12_plan 91 = .ok (.iconst (-1), 1) := by decide +kernel
theorem dX12_plan_92 : decode cX12_plan 92 = .ok (.if_icmp .eq 8, 3) := by decide +kernel
theorem dX12_plan_95 : decode cX12_plan 95 = .ok (.aload_n 0, 1) := by decide +kernel
theorem dX12_plan_96 : decode cX12_plan 96 = .ok (.iload_n 2, 1) := by decide +kernel
theorem dX12_plan_97 : decode cX12_plan 97 = .ok (.invokevirtual 325, 3) := by decide +kernel
theorem dX12_plan_100 : decode cX12_plan 100 = .ok (.iload_n 1, 1) := by decide +kernel
theorem dX12_plan_101 : decode cX12_plan 101 = .ok (.tableswitch 54 0 3 #[31, 33, 35, 49], 31) := by decide +kernel
theorem dX12_plan_132 : decode cX12_plan 132 = .ok (.iload_n 2, 1) := by decide +kernel
theorem dX12_plan_133 : decode cX12_plan 133 = .ok (.ireturn, 1) := by decide +kernel
theorem dX12_plan_134 : decode cX12_plan 134 = .ok (.iload_n 3, 1) := by decide +kernel
theorem dX12_plan_135 : decode cX12_plan 135 = .ok (.ireturn, 1) := by decide +kernel
theorem dX12_plan_136 : decode cX12_plan 136 = .ok (.aload_n 0, 1) := by decide +kernel
theorem dX12_plan_137 : decode cX12_plan 137 = .ok (.iload_n 2, 1) := by decide +kernel
theorem dX12_plan_138 : decode cX12_plan 138 = .ok (.invokevirtual 340, 3) := by decide +kernel
theorem dX12_plan_141 : decode cX12_plan 141 = .ok (.ifCond .eq 7, 3) := by decide +kernel
theorem dX12_plan_144 : decode cX12_plan 144 = .ok (.iconst 1, 1) := by decide +kernel
theorem dX12_plan_145 : decode cX12_plan 145 = .ok (.goto 4, 3) := by decide +kernel
theorem dX12_plan_148 : decode cX12_plan 148 = .ok (.iconst 0, 1) := by decide +kernel
theorem dX12_plan_149 : decode cX12_plan 149 = .ok (.ireturn, 1) := by decide +kernel
theorem dX12_plan_150 : decode cX12_plan 150 = .ok (.aload_n 0, 1) := by decide +kernel
theorem dX12_plan_151 : decode cX12_plan 151 = .ok (.getfield 322, 3) := by decide +kernel
theorem dX12_plan_154 : decode cX12_plan 154 = .ok (.ireturn, 1) := by decide +kernel
theorem dX12_plan_155 : decode cX12_plan 155 = .ok (.aload_n 0, 1) := by decide +kernel
theorem dX12_plan_156 : decode cX12_plan 156 = .ok (.invokevirtual 343, 3) := by decide +kernel
theorem dX12_plan_159 : decode cX12_plan 159 = .ok (.ireturn, 1) := by decide +kernel
theorem dX12_build_0 : decode cX12_build 0 = .ok (.aload_n 0, 1) := by decide +kernel
theorem dX12_build_1 : decode cX12_build 1 = .ok (.iconst 0, 1) := by decide +kernel
theorem dX12_build_2 : decode cX12_build 2 = .ok (.putfield 1, 3) := by decide +kernel
theorem dX12_build_5 : decode cX12_build 5 = .ok (.iload_n 1, 1) := by decide +kernel
theorem dX12_build_6 : decode cX12_build 6 = .ok (.invokestatic 346, 3) := by decide +kernel
theorem dX12_build_9 : decode cX12_build 9 = .ok (.ifCond .ne 6, 3) := by decide +kernel
theorem dX12_build_12 : decode cX12_build 12 = .ok (.bipush (-2), 2) := by decide +kernel
theorem dX12_build_14 : decode cX12_build 14 = .ok (.ireturn, 1) := by decide +kernel
theorem dX12_build_15 : decode cX12_build 15 = .ok (.iload_n 2, 1) := by decide +kernel
theorem dX12_build_16 : decode cX12_build 16 = .ok (.i2l, 1) := by decide +kernel
theorem dX12_build_17 : decode cX12_build 17 = .ok (.lconst 0, 1) := by decide +kernel
theorem dX12_build_18 : decode cX12_build 18 = .ok (.aload_n 0, 1) := by decide +kernel
theorem dX12_build_19 : decode cX12_build 19 = .ok (.getfield 210, 3) := by decide +kernel
theorem dX12_build_22 : decode cX12_build 22 = .ok (.i2l, 1) := by decide +kernel
theorem dX12_build_23 : decode cX12_build 23 = .ok (.invokestatic 86, 3) := by decide +kernel
theorem dX12_build_26 : decode cX12_build 26 = .ok (.ifCond .ne 6, 3) := by decide +kernel
theorem dX12_build_29 : decode cX12_build 29 = .ok (.bipush (-3), 2) := by decide +kernel
theorem dX12_build_31 : decode cX12_build 31 = .ok (.ireturn, 1) := by decide +kernel
theorem dX12_build_32 : decode cX12_build 32 = .ok (.aload_n 0, 1) := by decide +kernel
theorem dX12_build_33 : decode cX12_build 33 = .ok (.iload_n 1, 1) := by decide +kernel
theorem dX12_build_34 : decode cX12_build 34 = .ok (.iconst 0, 1) := by decide +kernel
theorem dX12_build_35 : decode cX12_build 35 = .ok (.invokevirtual 104, 3) := by decide +kernel
theorem dX12_build_38 : decode cX12_build 38 = .ok (.ifCond .eq 6, 3) := by decide +kernel
theorem dX12_build_41 : decode cX12_build 41 = .ok (.bipush (-5), 2) := by decide +kernel
theorem dX12_build_43 : decode cX12_build 43 = .ok (.ireturn, 1) := by decide +kernel
theorem dX12_build_44 : decode cX12_build 44 = .ok (.aload_n 0, 1) := by decide +kernel
theorem dX12_build_45 : decode cX12_build 45 = .ok (.iload_n 2, 1) := by decide +kernel
theorem dX12_build_46 : decode cX12_build 46 = .ok (.invokevirtual 292, 3) := by decide +kernel
theorem dX12_build_49 : decode cX12_build 49 = .ok (.aload_n 0, 1) := by decide +kernel
theorem dX12_build_50 : decode cX12_build 50 = .ok (.invokevirtual 349, 3) := by decide +kernel
theorem dX12_build_53 : decode cX12_build 53 = .ok (.aload_n 0, 1) := by decide +kernel
theorem dX12_build_54 : decode cX12_build 54 = .ok (.getfield 223, 3) := by decide +kernel
theorem dX12_build_57 : decode cX12_build 57 = .ok (.ifCond .eq 11, 3) := by decide +kernel
theorem dX12_build_60 : decode cX12_build 60 = .ok (.bipush (-30), 2) := by decide +kernel
theorem dX12_build_62 : decode cX12_build 62 = .ok (.aload_n 0, 1) := by decide +kernel
theorem dX12_build_63 : decode cX12_build 63 = .ok (.getfield 223, 3) := by decide +kernel
theorem dX12_build_66 : decode cX12_build 66 = .ok (.isub, 1) := by decide +kernel
theorem dX12_build_67 : decode cX12_build 67 = .ok (.ireturn, 1) := by decide +kernel
theorem dX12_build_68 : decode cX12_build 68 = .ok (.aload_n 0, 1) := by decide +kernel
theorem dX12_build_69 : decode cX12_build 69 = .ok (.invokevirtual 152, 3) := by decide +kernel
theorem dX12_build_72 : decode cX12_build 72 = .ok (.aload_n 0, 1) := by decide +kernel
theorem dX12_build_73 : decode cX12_build 73 = .ok (.iload_n 1, 1) := by decide +kernel
theorem dX12_build_74 : decode cX12_build 74 = .ok (.iconst 0, 1) := by decide +kernel
theorem dX12_build_75 : decode cX12_build 75 = .ok (.invokevirtual 68, 3) := by decide +kernel
theorem dX12_build_78 : decode cX12_build 78 = .ok (.aload_n 0, 1) := by decide +kernel
theorem dX12_build_79 : decode cX12_build 79 = .ok (.getfield 38, 3) := by decide +kernel
theorem dX12_build_82 : decode cX12_build 82 = .ok (.iconst 4, 1) := by decide +kernel
theorem dX12_build_83 : decode cX12_build 83 = .ok (.aload_n 0, 1) := by decide +kernel
theorem dX12_build_84 : decode cX12_build 84 = .ok (.getfield 13, 3) := by decide +kernel
theorem dX12_build_87 : decode cX12_build 87 = .ok (.sipush 2140, 3) := by decide +kernel
theorem dX12_build_90 : decode cX12_build 90 = .ok (.sipush 1600, 3) := by decide +kernel
theorem dX12_build_93 : decode cX12_build 93 = .ok (.iload_n 1, 1) := by decide +kernel
theorem dX12_build_94 : decode cX12_build 94 = .ok (.imul, 1) := by decide +kernel
theorem dX12_build_95 : decode cX12_build 95 = .ok (.iadd, 1) := by decide +kernel
theorem dX12_build_96 : decode cX12_build 96 = .ok (.iconst 4, 1) := by decide +kernel
theorem dX12_build_97 : decode cX12_build 97 = .ok (.iadd, 1) := by decide +kernel
theorem dX12_build_98 : decode cX12_build 98 = .ok (.bipush 8, 2) := by decide +kernel
theorem dX12_build_100 : decode cX12_build 100 = .ok (.invokestatic 76, 3) := by decide +kernel
theorem dX12_build_103 : decode cX12_build 103 = .ok (.aload_n 0, 1) := by decide +kernel
theorem dX12_build_104 : decode cX12_build 104 = .ok (.iload_n 1, 1) := by decide +kernel
theorem dX12_build_105 : decode cX12_build 105 = .ok (.iconst 0, 1) := by decide +kernel
theorem dX12_build_106 : decode cX12_build 106 = .ok (.iconst 1, 1) := by decide +kernel
theorem dX12_build_107 : decode cX12_build 107 = .ok (.invokevirtual 80, 3) := by decide +kernel
theorem dX12_build_110 : decode cX12_build 110 = .ok (.aload_n 0, 1) := by decide +kernel
theorem dX12_build_111 : decode cX12_build 111 = .ok (.iload_n 1, 1) := by decide +kernel
theorem dX12_build_112 : decode cX12_build 112 = .ok (.iconst 1, 1) := by decide +kernel
theorem dX12_build_113 : decode cX12_build 113 = .ok (.iconst 0, 1) := by decide +kernel
theorem dX12_build_114 : decode cX12_build 114 = .ok (.invokevirtual 80, 3) := by decide +kernel
theorem dX12_build_117 : decode cX12_build 117 = .ok (.aload_n 0, 1) := by decide +kernel
theorem dX12_build_118 : decode cX12_build 118 = .ok (.iload_n 1, 1) := by decide +kernel
theorem dX12_build_119 : decode cX12_build 119 = .ok (.iconst 3, 1) := by decide +kernel
theorem dX12_build_120 : decode cX12_build 120 = .ok (.aload_n 0, 1) := by decide +kernel
theorem dX12_build_121 : decode cX12_build 121 = .ok (.getfield 13, 3) := by decide +kernel
theorem dX12_build_124 : decode cX12_build 124 = .ok (.sipush 5340, 3) := by decide +kernel
theorem dX12_build_127 : decode cX12_build 127 = .ok (.iaload, 1) := by decide +kernel
theorem dX12_build_128 : decode cX12_build 128 = .ok (.invokevirtual 80, 3) := by decide +kernel
theorem dX12_build_131 : decode cX12_build 131 = .ok (.aload_n 0, 1) := by decide +kernel
theorem dX12_build_132 : decode cX12_build 132 = .ok (.getfield 13, 3) := by decide +kernel
theorem dX12_build_135 : decode cX12_build 135 = .ok (.sipush 5340, 3) := by decide +kernel
theorem dX12_build_138 : decode cX12_build 138 = .ok (.iaload, 1) := by decide +kernel
theorem dX12_build_139 : decode cX12_build 139 = .ok (.ireturn, 1) := by decide +kernel
theorem dX12_fault_0 : decode cX12_fault 0 = .ok (.aload_n 0, 1) := by decide +kernel
theorem dX12_fault_1 : decode cX12_fault 1 = .ok (.iconst 0, 1) := by decide +kernel
theorem dX12_fault_2 : decode cX12_fault 2 = .ok (.putfield 1, 3) := by decide +kernel
theorem dX12_fault_5 : decode cX12_fault 5 = .ok (.iload_n 1, 1) := by decide +kernel
theorem dX12_fault_6 : decode cX12_fault 6 = .ok (.ifCond .ne 10, 3) := by decide +kernel
theorem dX12_fault_9 : decode cX12_fault 9 = .ok (.aload_n 0, 1) := by decide +kernel
theorem dX12_fault_10 : decode cX12_fault 10 = .ok (.getfield 223, 3) := by decide +kernel
theorem dX12_fault_13 : decode cX12_fault 13 = .ok (.goto 16, 3) := by decide +kernel
theorem dX12_fault_16 : decode cX12_fault 16 = .ok (.iload_n 1, 1) := by decide +kernel
theorem dX12_fault_17 : decode cX12_fault 17 = .ok (.iconst 1, 1) := by decide +kernel
theorem dX12_fault_18 : decode cX12_fault 18 = .ok (.if_icmp .ne 10, 3) := by decide +kernel
theorem dX12_fault_21 : decode cX12_fault 21 = .ok (.aload_n 0, 1) := by decide +kernel
theorem dX12_fault_22 : decode cX12_fault 22 = .ok (.getfield 35, 3) := by decide +kernel
theorem dX12_fault_25 : decode cX12_fault 25 = .ok (.goto 4, 3) := by decide +kernel
theorem dX12_fault_28 : decode cX12_fault 28 = .ok (.iconst (-1), 1) := by decide +kernel
theorem dX12_fault_29 : decode cX12_fault 29 = .ok (.ireturn, 1) := by decide +kernel
theorem dX12_scans_0 : decode cX12_scans 0 = .ok (.aload_n 0, 1) := by decide +kernel
theorem dX12_scans_1 : decode cX12_scans 1 = .ok (.iload_n 1, 1) := by decide +kernel
theorem dX12_scans_2 : decode cX12_scans 2 = .ok (.iconst 1, 1) := by decide +kernel
theorem dX12_scans_3 : decode cX12_scans 3 = .ok (.invokevirtual 104, 3) := by decide +kernel
theorem dX12_scans_6 : decode cX12_scans 6 = .ok (.istore_n 2, 1) := by decide +kernel
theorem dX12_scans_7 : decode cX12_scans 7 = .ok (.aload_n 0, 1) := by decide +kernel
theorem dX12_scans_8 : decode cX12_scans 8 = .ok (.iload_n 2, 1) := by decide +kernel
theorem dX12_scans_9 : decode cX12_scans 9 = .ok (.aload_n 0, 1) := by decide +kernel
theorem dX12_scans_10 : decode cX12_scans 10 = .ok (.iload_n 1, 1) := by decide +kernel
theorem dX12_scans_11 : decode cX12_scans 11 = .ok (.iconst 3, 1) := by decide +kernel
theorem dX12_scans_12 : decode cX12_scans 12 = .ok (.invokevirtual 104, 3) := by decide +kernel
theorem dX12_scans_15 : decode cX12_scans 15 = .ok (.invokevirtual 101, 3) := by decide +kernel
theorem dX12_scans_18 : decode cX12_scans 18 = .ok (.istore_n 3, 1) := by decide +kernel
theorem dX12_scans_19 : decode cX12_scans 19 = .ok (.aload_n 0, 1) := by decide +kernel
theorem dX12_scans_20 : decode cX12_scans 20 = .ok (.iload_n 1, 1) := by decide +kernel
theorem dX12_scans_21 : decode cX12_scans 21 = .ok (.iload_n 3, 1) := by decide +kernel
theorem dX12_scans_22 : decode cX12_scans 22 = .ok (.invokevirtual 136, 3) := by decide +kernel
theorem dX12_scans_25 : decode cX12_scans 25 = .ok (.ifCond .eq 16, 3) := by decide +kernel
theorem dX12_scans_28 : decode cX12_scans 28 = .ok (.aload_n 0, 1) := by decide +kernel
theorem dX12_scans_29 : decode cX12_scans 29 = .ok (.iload_n 1, 1) := by decide +kernel
theorem dX12_scans_30 : decode cX12_scans 30 = .ok (.iload_n 3, 1) := by decide +kernel
theorem dX12_scans_31 : decode cX12_scans 31 = .ok (.invokevirtual 133, 3) := by decide +kernel
theorem dX12_scans_34 : decode cX12_scans 34 = .ok (.aload_n 0, 1) := by decide +kernel
theorem dX12_scans_35 : decode cX12_scans 35 = .ok (.iload_n 1, 1) := by decide +kernel
