theorem d_Mo_waiting_30 : decode m_Mo_waiting.2.1 30 = .ok (.iload_n 2, 1) := by decide +kernel
theorem d_Mo_waiting_31 : decode m_Mo_waiting.2.1 31 = .ok (.iconst 1, 1) := by decide +kernel
theorem d_Mo_waiting_32 : decode m_Mo_waiting.2.1 32 = .ok (.iadd, 1) := by decide +kernel
theorem d_Mo_waiting_33 : decode m_Mo_waiting.2.1 33 = .ok (.goto 4, 3) := by decide +kernel
theorem d_Mo_waiting_36 : decode m_Mo_waiting.2.1 36 = .ok (.iload_n 2, 1) := by decide +kernel
theorem d_Mo_waiting_37 : decode m_Mo_waiting.2.1 37 = .ok (.istore_n 2, 1) := by decide +kernel
theorem d_Mo_waiting_38 : decode m_Mo_waiting.2.1 38 = .ok (.iinc 3 1, 3) := by decide +kernel
theorem d_Mo_waiting_41 : decode m_Mo_waiting.2.1 41 = .ok (.goto (-28), 3) := by decide +kernel
theorem d_Mo_waiting_44 : decode m_Mo_waiting.2.1 44 = .ok (.iload_n 2, 1) := by decide +kernel
theorem d_Mo_waiting_45 : decode m_Mo_waiting.2.1 45 = .ok (.ireturn, 1) := by decide +kernel
theorem d_Mo_waits_0 : decode m_Mo_waits.2.1 0 = .ok (.aload_n 0, 1) := by decide +kernel
theorem d_Mo_waits_1 : decode m_Mo_waits.2.1 1 = .ok (.getfield 7, 3) := by decide +kernel
theorem d_Mo_waits_4 : decode m_Mo_waits.2.1 4 = .ok (.iload_n 1, 1) := by decide +kernel
theorem d_Mo_waits_5 : decode m_Mo_waits.2.1 5 = .ok (.iaload, 1) := by decide +kernel
theorem d_Mo_waits_6 : decode m_Mo_waits.2.1 6 = .ok (.bipush 9, 2) := by decide +kernel
theorem d_Mo_waits_8 : decode m_Mo_waits.2.1 8 = .ok (.iload_n 2, 1) := by decide +kernel
theorem d_Mo_waits_9 : decode m_Mo_waits.2.1 9 = .ok (.iadd, 1) := by decide +kernel
theorem d_Mo_waits_10 : decode m_Mo_waits.2.1 10 = .ok (.ishr, 1) := by decide +kernel
theorem d_Mo_waits_11 : decode m_Mo_waits.2.1 11 = .ok (.iconst 1, 1) := by decide +kernel
theorem d_Mo_waits_12 : decode m_Mo_waits.2.1 12 = .ok (.iand, 1) := by decide +kernel
theorem d_Mo_waits_13 : decode m_Mo_waits.2.1 13 = .ok (.ifCond .ne 7, 3) := by decide +kernel
theorem d_Mo_waits_16 : decode m_Mo_waits.2.1 16 = .ok (.iconst 1, 1) := by decide +kernel
theorem d_Mo_waits_17 : decode m_Mo_waits.2.1 17 = .ok (.goto 4, 3) := by decide +kernel
theorem d_Mo_waits_20 : decode m_Mo_waits.2.1 20 = .ok (.iconst 0, 1) := by decide +kernel
theorem d_Mo_waits_21 : decode m_Mo_waits.2.1 21 = .ok (.ireturn, 1) := by decide +kernel
theorem d_Mo_run_0 : decode m_Mo_run.2.1 0 = .ok (.iload_n 1, 1) := by decide +kernel
theorem d_Mo_run_1 : decode m_Mo_run.2.1 1 = .ok (.invokestatic 136, 3) := by decide +kernel
theorem d_Mo_run_4 : decode m_Mo_run.2.1 4 = .ok (.ifCond .eq 13, 3) := by decide +kernel
theorem d_Mo_run_7 : decode m_Mo_run.2.1 7 = .ok (.iload_n 2, 1) := by decide +kernel
theorem d_Mo_run_8 : decode m_Mo_run.2.1 8 = .ok (.ifCond .lt 9, 3) := by decide +kernel
theorem d_Mo_run_11 : decode m_Mo_run.2.1 11 = .ok (.iload_n 2, 1) := by decide +kernel
theorem d_Mo_run_12 : decode m_Mo_run.2.1 12 = .ok (.bipush 60, 2) := by decide +kernel
theorem d_Mo_run_14 : decode m_Mo_run.2.1 14 = .ok (.if_icmp .le 5, 3) := by decide +kernel
theorem d_Mo_run_17 : decode m_Mo_run.2.1 17 = .ok (.iconst (-1), 1) := by decide +kernel
theorem d_Mo_run_18 : decode m_Mo_run.2.1 18 = .ok (.ireturn, 1) := by decide +kernel
theorem d_Mo_run_19 : decode m_Mo_run.2.1 19 = .ok (.iconst 0, 1) := by decide +kernel
theorem d_Mo_run_20 : decode m_Mo_run.2.1 20 = .ok (.istore_n 3, 1) := by decide +kernel
theorem d_Mo_run_21 : decode m_Mo_run.2.1 21 = .ok (.iconst 0, 1) := by decide +kernel
theorem d_Mo_run_22 : decode m_Mo_run.2.1 22 = .ok (.istore 4, 2) := by decide +kernel
theorem d_Mo_run_24 : decode m_Mo_run.2.1 24 = .ok (.iload 4, 2) := by decide +kernel
theorem d_Mo_run_26 : decode m_Mo_run.2.1 26 = .ok (.aload_n 0, 1) := by decide +kernel
theorem d_Mo_run_27 : decode m_Mo_run.2.1 27 = .ok (.getfield 147, 3) := by decide +kernel
theorem d_Mo_run_30 : decode m_Mo_run.2.1 30 = .ok (.if_icmp .ge 34, 3) := by decide +kernel
theorem d_Mo_run_33 : decode m_Mo_run.2.1 33 = .ok (.iload_n 3, 1) := by decide +kernel
theorem d_Mo_run_34 : decode m_Mo_run.2.1 34 = .ok (.iload_n 2, 1) := by decide +kernel
theorem d_Mo_run_35 : decode m_Mo_run.2.1 35 = .ok (.if_icmp .ge 29, 3) := by decide +kernel
theorem d_Mo_run_38 : decode m_Mo_run.2.1 38 = .ok (.aload_n 0, 1) := by decide +kernel
theorem d_Mo_run_39 : decode m_Mo_run.2.1 39 = .ok (.iload 4, 2) := by decide +kernel
theorem d_Mo_run_41 : decode m_Mo_run.2.1 41 = .ok (.iload_n 1, 1) := by decide +kernel
theorem d_Mo_run_42 : decode m_Mo_run.2.1 42 = .ok (.invokevirtual 150, 3) := by decide +kernel
theorem d_Mo_run_45 : decode m_Mo_run.2.1 45 = .ok (.ifCond .eq 13, 3) := by decide +kernel
theorem d_Mo_run_48 : decode m_Mo_run.2.1 48 = .ok (.aload_n 0, 1) := by decide +kernel
theorem d_Mo_run_49 : decode m_Mo_run.2.1 49 = .ok (.iload_n 1, 1) := by decide +kernel
theorem d_Mo_run_50 : decode m_Mo_run.2.1 50 = .ok (.iload 4, 2) := by decide +kernel
theorem d_Mo_run_52 : decode m_Mo_run.2.1 52 = .ok (.invokevirtual 182, 3) := by decide +kernel
theorem d_Mo_run_55 : decode m_Mo_run.2.1 55 = .ok (.iinc 3 1, 3) := by decide +kernel
theorem d_Mo_run_58 : decode m_Mo_run.2.1 58 = .ok (.iinc 4 1, 3) := by decide +kernel
theorem d_Mo_run_61 : decode m_Mo_run.2.1 61 = .ok (.goto (-37), 3) := by decide +kernel
theorem d_Mo_run_64 : decode m_Mo_run.2.1 64 = .ok (.iload_n 3, 1) := by decide +kernel
theorem d_Mo_run_65 : decode m_Mo_run.2.1 65 = .ok (.ireturn, 1) := by decide +kernel
theorem d_Mo_reach_0 : decode m_Mo_reach.2.1 0 = .ok (.aload_n 0, 1) := by decide +kernel
theorem d_Mo_reach_1 : decode m_Mo_reach.2.1 1 = .ok (.getfield 7, 3) := by decide +kernel
theorem d_Mo_reach_4 : decode m_Mo_reach.2.1 4 = .ok (.iload_n 2, 1) := by decide +kernel
theorem d_Mo_reach_5 : decode m_Mo_reach.2.1 5 = .ok (.aload_n 0, 1) := by decide +kernel
theorem d_Mo_reach_6 : decode m_Mo_reach.2.1 6 = .ok (.getfield 7, 3) := by decide +kernel
theorem d_Mo_reach_9 : decode m_Mo_reach.2.1 9 = .ok (.iload_n 2, 1) := by decide +kernel
theorem d_Mo_reach_10 : decode m_Mo_reach.2.1 10 = .ok (.iaload, 1) := by decide +kernel
theorem d_Mo_reach_11 : decode m_Mo_reach.2.1 11 = .ok (.iconst 1, 1) := by decide +kernel
theorem d_Mo_reach_12 : decode m_Mo_reach.2.1 12 = .ok (.bipush 9, 2) := by decide +kernel
theorem d_Mo_reach_14 : decode m_Mo_reach.2.1 14 = .ok (.iload_n 1, 1) := by decide +kernel
theorem d_Mo_reach_15 : decode m_Mo_reach.2.1 15 = .ok (.iadd, 1) := by decide +kernel
theorem d_Mo_reach_16 : decode m_Mo_reach.2.1 16 = .ok (.ishl, 1) := by decide +kernel
theorem d_Mo_reach_17 : decode m_Mo_reach.2.1 17 = .ok (.ior, 1) := by decide +kernel
theorem d_Mo_reach_18 : decode m_Mo_reach.2.1 18 = .ok (.iastore, 1) := by decide +kernel
theorem d_Mo_reach_19 : decode m_Mo_reach.2.1 19 = .ok (.aload_n 0, 1) := by decide +kernel
theorem d_Mo_reach_20 : decode m_Mo_reach.2.1 20 = .ok (.getfield 7, 3) := by decide +kernel
theorem d_Mo_reach_23 : decode m_Mo_reach.2.1 23 = .ok (.iload_n 2, 1) := by decide +kernel
theorem d_Mo_reach_24 : decode m_Mo_reach.2.1 24 = .ok (.iaload, 1) := by decide +kernel
theorem d_Mo_reach_25 : decode m_Mo_reach.2.1 25 = .ok (.iconst 3, 1) := by decide +kernel
theorem d_Mo_reach_26 : decode m_Mo_reach.2.1 26 = .ok (.iand, 1) := by decide +kernel
theorem d_Mo_reach_27 : decode m_Mo_reach.2.1 27 = .ok (.istore_n 3, 1) := by decide +kernel
theorem d_Mo_reach_28 : decode m_Mo_reach.2.1 28 = .ok (.aload_n 0, 1) := by decide +kernel
theorem d_Mo_reach_29 : decode m_Mo_reach.2.1 29 = .ok (.getfield 7, 3) := by decide +kernel
theorem d_Mo_reach_32 : decode m_Mo_reach.2.1 32 = .ok (.iload_n 2, 1) := by decide +kernel
theorem d_Mo_reach_33 : decode m_Mo_reach.2.1 33 = .ok (.iaload, 1) := by decide +kernel
theorem d_Mo_reach_34 : decode m_Mo_reach.2.1 34 = .ok (.iconst 2, 1) := by decide +kernel
theorem d_Mo_reach_35 : decode m_Mo_reach.2.1 35 = .ok (.ishr, 1) := by decide +kernel
theorem d_Mo_reach_36 : decode m_Mo_reach.2.1 36 = .ok (.iconst 3, 1) := by decide +kernel
theorem d_Mo_reach_37 : decode m_Mo_reach.2.1 37 = .ok (.iand, 1) := by decide +kernel
theorem d_Mo_reach_38 : decode m_Mo_reach.2.1 38 = .ok (.istore 4, 2) := by decide +kernel
theorem d_Mo_reach_40 : decode m_Mo_reach.2.1 40 = .ok (.aload_n 0, 1) := by decide +kernel
theorem d_Mo_reach_41 : decode m_Mo_reach.2.1 41 = .ok (.getfield 7, 3) := by decide +kernel
theorem d_Mo_reach_44 : decode m_Mo_reach.2.1 44 = .ok (.iload_n 2, 1) := by decide +kernel
theorem d_Mo_reach_45 : decode m_Mo_reach.2.1 45 = .ok (.iaload, 1) := by decide +kernel
theorem d_Mo_reach_46 : decode m_Mo_reach.2.1 46 = .ok (.iconst 4, 1) := by decide +kernel
theorem d_Mo_reach_47 : decode m_Mo_reach.2.1 47 = .ok (.ishr, 1) := by decide +kernel
theorem d_Mo_reach_48 : decode m_Mo_reach.2.1 48 = .ok (.iconst 3, 1) := by decide +kernel
theorem d_Mo_reach_49 : decode m_Mo_reach.2.1 49 = .ok (.iand, 1) := by decide +kernel
theorem d_Mo_reach_50 : decode m_Mo_reach.2.1 50 = .ok (.istore 5, 2) := by decide +kernel
theorem d_Mo_reach_52 : decode m_Mo_reach.2.1 52 = .ok (.aload_n 0, 1) := by decide +kernel
theorem d_Mo_reach_53 : decode m_Mo_reach.2.1 53 = .ok (.getfield 7, 3) := by decide +kernel
theorem d_Mo_reach_56 : decode m_Mo_reach.2.1 56 = .ok (.iload_n 2, 1) := by decide +kernel
theorem d_Mo_reach_57 : decode m_Mo_reach.2.1 57 = .ok (.iaload, 1) := by decide +kernel
theorem d_Mo_reach_58 : decode m_Mo_reach.2.1 58 = .ok (.bipush 6, 2) := by decide +kernel
theorem d_Mo_reach_60 : decode m_Mo_reach.2.1 60 = .ok (.ishr, 1) := by decide +kernel
theorem d_Mo_reach_61 : decode m_Mo_reach.2.1 61 = .ok (.bipush 7, 2) := by decide +kernel
theorem d_Mo_reach_63 : decode m_Mo_reach.2.1 63 = .ok (.iand, 1) := by decide +kernel
theorem d_Mo_reach_64 : decode m_Mo_reach.2.1 64 = .ok (.istore 6, 2) := by decide +kernel
theorem d_Mo_reach_66 : decode m_Mo_reach.2.1 66 = .ok (.iload_n 1, 1) := by decide +kernel
theorem d_Mo_reach_67 : decode m_Mo_reach.2.1 67 = .ok (.iconst 3, 1) := by decide +kernel
theorem d_Mo_reach_68 : decode m_Mo_reach.2.1 68 = .ok (.if_icmp .ne 10, 3) := by decide +kernel
theorem d_Mo_reach_71 : decode m_Mo_reach.2.1 71 = .ok (.aload_n 0, 1) := by decide +kernel
theorem d_Mo_reach_72 : decode m_Mo_reach.2.1 72 = .ok (.getfield 153, 3) := by decide +kernel
theorem d_Mo_reach_75 : decode m_Mo_reach.2.1 75 = .ok (.ifCond .ne 14, 3) := by decide +kernel
theorem d_Mo_reach_78 : decode m_Mo_reach.2.1 78 = .ok (.iload 4, 2) := by decide +kernel
theorem d_Mo_reach_80 : decode m_Mo_reach.2.1 80 = .ok (.aload_n 0, 1) := by decide +kernel
theorem d_Mo_reach_81 : decode m_Mo_reach.2.1 81 = .ok (.getfield 19, 3) := by decide +kernel
theorem d_Mo_reach_84 : decode m_Mo_reach.2.1 84 = .ok (.iload_n 1, 1) := by decide +kernel
theorem d_Mo_reach_85 : decode m_Mo_reach.2.1 85 = .ok (.iaload, 1) := by decide +kernel
theorem d_Mo_reach_86 : decode m_Mo_reach.2.1 86 = .ok (.if_icmp .ge 4, 3) := by decide +kernel
theorem d_Mo_reach_89 : decode m_Mo_reach.2.1 89 = .ok (.return_, 1) := by decide +kernel
theorem d_Mo_reach_90 : decode m_Mo_reach.2.1 90 = .ok (.aload_n 0, 1) := by decide +kernel
theorem d_Mo_reach_91 : decode m_Mo_reach.2.1 91 = .ok (.getfield 7, 3) := by decide +kernel
theorem d_Mo_reach_94 : decode m_Mo_reach.2.1 94 = .ok (.iload_n 2, 1) := by decide +kernel
theorem d_Mo_reach_95 : decode m_Mo_reach.2.1 95 = .ok (.iaload, 1) := by decide +kernel
theorem d_Mo_reach_96 : decode m_Mo_reach.2.1 96 = .ok (.bipush 13, 2) := by decide +kernel
theorem d_Mo_reach_98 : decode m_Mo_reach.2.1 98 = .ok (.ishr, 1) := by decide +kernel
theorem d_Mo_reach_99 : decode m_Mo_reach.2.1 99 = .ok (.iconst 1, 1) := by decide +kernel
theorem d_Mo_reach_100 : decode m_Mo_reach.2.1 100 = .ok (.iand, 1) := by decide +kernel
theorem d_Mo_reach_101 : decode m_Mo_reach.2.1 101 = .ok (.iconst 1, 1) := by decide +kernel
theorem d_Mo_reach_102 : decode m_Mo_reach.2.1 102 = .ok (.if_icmp .ne 7, 3) := by decide +kernel
theorem d_Mo_reach_105 : decode m_Mo_reach.2.1 105 = .ok (.iconst 1, 1) := by decide +kernel
theorem d_Mo_reach_106 : decode m_Mo_reach.2.1 106 = .ok (.goto 4, 3) := by decide +kernel
theorem d_Mo_reach_109 : decode m_Mo_reach.2.1 109 = .ok (.iconst 0, 1) := by decide +kernel
theorem d_Mo_reach_110 : decode m_Mo_reach.2.1 110 = .ok (.istore 7, 2) := by decide +kernel
theorem d_Mo_reach_112 : decode m_Mo_reach.2.1 112 = .ok (.bipush 16, 2) := by decide +kernel
theorem d_Mo_reach_114 : decode m_Mo_reach.2.1 114 = .ok (.iload_n 1, 1) := by decide +kernel
theorem d_Mo_reach_115 : decode m_Mo_reach.2.1 115 = .ok (.imul, 1) := by decide +kernel
theorem d_Mo_reach_116 : decode m_Mo_reach.2.1 116 = .ok (.iconst 4, 1) := by decide +kernel
theorem d_Mo_reach_117 : decode m_Mo_reach.2.1 117 = .ok (.iload 4, 2) := by decide +kernel
theorem d_Mo_reach_119 : decode m_Mo_reach.2.1 119 = .ok (.imul, 1) := by decide +kernel
theorem d_Mo_reach_120 : decode m_Mo_reach.2.1 120 = .ok (.iadd, 1) := by decide +kernel
theorem d_Mo_reach_121 : decode m_Mo_reach.2.1 121 = .ok (.iload 5, 2) := by decide +kernel
theorem d_Mo_reach_123 : decode m_Mo_reach.2.1 123 = .ok (.iadd, 1) := by decide +kernel
theorem d_Mo_reach_124 : decode m_Mo_reach.2.1 124 = .ok (.istore 8, 2) := by decide +kernel
theorem d_Mo_reach_126 : decode m_Mo_reach.2.1 126 = .ok (.iload 6, 2) := by decide +kernel
theorem d_Mo_reach_128 : decode m_Mo_reach.2.1 128 = .ok (.ifCond .ne 27, 3) := by decide +kernel
theorem d_Mo_reach_131 : decode m_Mo_reach.2.1 131 = .ok (.aload_n 0, 1) := by decide +kernel
theorem d_Mo_reach_132 : decode m_Mo_reach.2.1 132 = .ok (.iload 8, 2) := by decide +kernel
theorem d_Mo_reach_134 : decode m_Mo_reach.2.1 134 = .ok (.iload_n 1, 1) := by decide +kernel
theorem d_Mo_reach_135 : decode m_Mo_reach.2.1 135 = .ok (.iload_n 3, 1) := by decide +kernel
theorem d_Mo_reach_136 : decode m_Mo_reach.2.1 136 = .ok (.iload 5, 2) := by decide +kernel
theorem d_Mo_reach_138 : decode m_Mo_reach.2.1 138 = .ok (.if_icmp .ne 7, 3) := by decide +kernel
theorem d_Mo_reach_141 : decode m_Mo_reach.2.1 141 = .ok (.iconst 1, 1) := by decide +kernel
theorem d_Mo_reach_142 : decode m_Mo_reach.2.1 142 = .ok (.goto 4, 3) := by decide +kernel
theorem d_Mo_reach_145 : decode m_Mo_reach.2.1 145 = .ok (.iconst 0, 1) := by decide +kernel
theorem d_Mo_reach_146 : decode m_Mo_reach.2.1 146 = .ok (.iload 7, 2) := by decide +kernel
theorem d_Mo_reach_148 : decode m_Mo_reach.2.1 148 = .ok (.iload_n 2, 1) := by decide +kernel
theorem d_Mo_reach_149 : decode m_Mo_reach.2.1 149 = .ok (.invokevirtual 157, 3) := by decide +kernel
theorem d_Mo_reach_152 : decode m_Mo_reach.2.1 152 = .ok (.goto 124, 3) := by decide +kernel
theorem d_Mo_reach_155 : decode m_Mo_reach.2.1 155 = .ok (.iload 6, 2) := by decide +kernel
theorem d_Mo_reach_157 : decode m_Mo_reach.2.1 157 = .ok (.iconst 3, 1) := by decide +kernel
theorem d_Mo_reach_158 : decode m_Mo_reach.2.1 158 = .ok (.if_icmp .ge 20, 3) := by decide +kernel
theorem d_Mo_reach_161 : decode m_Mo_reach.2.1 161 = .ok (.aload_n 0, 1) := by decide +kernel
theorem d_Mo_reach_162 : decode m_Mo_reach.2.1 162 = .ok (.iconst 4, 1) := by decide +kernel
theorem d_Mo_reach_163 : decode m_Mo_reach.2.1 163 = .ok (.iload 8, 2) := by decide +kernel
theorem d_Mo_reach_165 : decode m_Mo_reach.2.1 165 = .ok (.imul, 1) := by decide +kernel
theorem d_Mo_reach_166 : decode m_Mo_reach.2.1 166 = .ok (.iload_n 3, 1) := by decide +kernel
theorem d_Mo_reach_167 : decode m_Mo_reach.2.1 167 = .ok (.iadd, 1) := by decide +kernel
theorem d_Mo_reach_168 : decode m_Mo_reach.2.1 168 = .ok (.iload_n 3, 1) := by decide +kernel
theorem d_Mo_reach_169 : decode m_Mo_reach.2.1 169 = .ok (.iload 6, 2) := by decide +kernel
theorem d_Mo_reach_171 : decode m_Mo_reach.2.1 171 = .ok (.iload_n 2, 1) := by decide +kernel
theorem d_Mo_reach_172 : decode m_Mo_reach.2.1 172 = .ok (.invokevirtual 161, 3) := by decide +kernel
theorem d_Mo_reach_175 : decode m_Mo_reach.2.1 175 = .ok (.goto 101, 3) := by decide +kernel
theorem d_Mo_reach_178 : decode m_Mo_reach.2.1 178 = .ok (.bipush 24, 2) := by decide +kernel
theorem d_Mo_reach_180 : decode m_Mo_reach.2.1 180 = .ok (.iload 8, 2) := by decide +kernel
theorem d_Mo_reach_182 : decode m_Mo_reach.2.1 182 = .ok (.imul, 1) := by decide +kernel
theorem d_Mo_reach_183 : decode m_Mo_reach.2.1 183 = .ok (.iconst 4, 1) := by decide +kernel
theorem d_Mo_reach_184 : decode m_Mo_reach.2.1 184 = .ok (.aload_n 0, 1) := by decide +kernel
theorem d_Mo_reach_185 : decode m_Mo_reach.2.1 185 = .ok (.getfield 13, 3) := by decide +kernel
theorem d_Mo_reach_188 : decode m_Mo_reach.2.1 188 = .ok (.iload_n 2, 1) := by decide +kernel
theorem d_Mo_reach_189 : decode m_Mo_reach.2.1 189 = .ok (.iaload, 1) := by decide +kernel
theorem d_Mo_reach_190 : decode m_Mo_reach.2.1 190 = .ok (.imul, 1) := by decide +kernel
theorem d_Mo_reach_191 : decode m_Mo_reach.2.1 191 = .ok (.iadd, 1) := by decide +kernel
theorem d_Mo_reach_192 : decode m_Mo_reach.2.1 192 = .ok (.iload_n 3, 1) := by decide +kernel
theorem d_Mo_reach_193 : decode m_Mo_reach.2.1 193 = .ok (.iadd, 1) := by decide +kernel
theorem d_Mo_reach_194 : decode m_Mo_reach.2.1 194 = .ok (.istore 9, 2) := by decide +kernel
theorem d_Mo_reach_196 : decode m_Mo_reach.2.1 196 = .ok (.aload_n 0, 1) := by decide +kernel
theorem d_Mo_reach_197 : decode m_Mo_reach.2.1 197 = .ok (.getfield 59, 3) := by decide +kernel
theorem d_Mo_reach_200 : decode m_Mo_reach.2.1 200 = .ok (.iload 9, 2) := by decide +kernel
theorem d_Mo_reach_202 : decode m_Mo_reach.2.1 202 = .ok (.iload 6, 2) := by decide +kernel
theorem d_Mo_reach_204 : decode m_Mo_reach.2.1 204 = .ok (.iconst 3, 1) := by decide +kernel
theorem d_Mo_reach_205 : decode m_Mo_reach.2.1 205 = .ok (.if_icmp .ne 22, 3) := by decide +kernel
theorem d_Mo_reach_208 : decode m_Mo_reach.2.1 208 = .ok (.aload_n 0, 1) := by decide +kernel
theorem d_Mo_reach_209 : decode m_Mo_reach.2.1 209 = .ok (.getfield 59, 3) := by decide +kernel
theorem d_Mo_reach_212 : decode m_Mo_reach.2.1 212 = .ok (.iload 9, 2) := by decide +kernel
theorem d_Mo_reach_214 : decode m_Mo_reach.2.1 214 = .ok (.iaload, 1) := by decide +kernel
theorem d_Mo_reach_215 : decode m_Mo_reach.2.1 215 = .ok (.iconst 1, 1) := by decide +kernel
theorem d_Mo_reach_216 : decode m_Mo_reach.2.1 216 = .ok (.aload_n 0, 1) := by decide +kernel
theorem d_Mo_reach_217 : decode m_Mo_reach.2.1 217 = .ok (.getfield 16, 3) := by decide +kernel
theorem d_Mo_reach_220 : decode m_Mo_reach.2.1 220 = .ok (.iload_n 2, 1) := by decide +kernel
theorem d_Mo_reach_221 : decode m_Mo_reach.2.1 221 = .ok (.iaload, 1) := by decide +kernel
theorem d_Mo_reach_222 : decode m_Mo_reach.2.1 222 = .ok (.ishl, 1) := by decide +kernel
theorem d_Mo_reach_223 : decode m_Mo_reach.2.1 223 = .ok (.ior, 1) := by decide +kernel
theorem d_Mo_reach_224 : decode m_Mo_reach.2.1 224 = .ok (.goto 10, 3) := by decide +kernel
theorem d_Mo_reach_227 : decode m_Mo_reach.2.1 227 = .ok (.aload_n 0, 1) := by decide +kernel
theorem d_Mo_reach_228 : decode m_Mo_reach.2.1 228 = .ok (.getfield 59, 3) := by decide +kernel
theorem d_Mo_reach_231 : decode m_Mo_reach.2.1 231 = .ok (.iload 9, 2) := by decide +kernel
theorem d_Mo_reach_233 : decode m_Mo_reach.2.1 233 = .ok (.iaload, 1) := by decide +kernel
theorem d_Mo_reach_234 : decode m_Mo_reach.2.1 234 = .ok (.iastore, 1) := by decide +kernel
theorem d_Mo_reach_235 : decode m_Mo_reach.2.1 235 = .ok (.aload_n 0, 1) := by decide +kernel
theorem d_Mo_reach_236 : decode m_Mo_reach.2.1 236 = .ok (.getfield 62, 3) := by decide +kernel
theorem d_Mo_reach_239 : decode m_Mo_reach.2.1 239 = .ok (.iload 9, 2) := by decide +kernel
theorem d_Mo_reach_241 : decode m_Mo_reach.2.1 241 = .ok (.iload 6, 2) := by decide +kernel
theorem d_Mo_reach_243 : decode m_Mo_reach.2.1 243 = .ok (.iconst 4, 1) := by decide +kernel
theorem d_Mo_reach_244 : decode m_Mo_reach.2.1 244 = .ok (.if_icmp .ne 24, 3) := by decide +kernel
theorem d_Mo_reach_247 : decode m_Mo_reach.2.1 247 = .ok (.aload_n 0, 1) := by decide +kernel
theorem d_Mo_reach_248 : decode m_Mo_reach.2.1 248 = .ok (.getfield 62, 3) := by decide +kernel
theorem d_Mo_reach_251 : decode m_Mo_reach.2.1 251 = .ok (.iload 9, 2) := by decide +kernel
theorem d_Mo_reach_253 : decode m_Mo_reach.2.1 253 = .ok (.iaload, 1) := by decide +kernel
theorem d_Mo_reach_254 : decode m_Mo_reach.2.1 254 = .ok (.ifCond .ne 14, 3) := by decide +kernel
theorem d_Mo_reach_257 : decode m_Mo_reach.2.1 257 = .ok (.iconst 1, 1) := by decide +kernel
theorem d_Mo_reach_258 : decode m_Mo_reach.2.1 258 = .ok (.aload_n 0, 1) := by decide +kernel
theorem d_Mo_reach_259 : decode m_Mo_reach.2.1 259 = .ok (.getfield 16, 3) := by decide +kernel
theorem d_Mo_reach_262 : decode m_Mo_reach.2.1 262 = .ok (.iload_n 2, 1) := by decide +kernel
theorem d_Mo_reach_263 : decode m_Mo_reach.2.1 263 = .ok (.iaload, 1) := by decide +kernel
theorem d_Mo_reach_264 : decode m_Mo_reach.2.1 264 = .ok (.iadd, 1) := by decide +kernel
theorem d_Mo_reach_265 : decode m_Mo_reach.2.1 265 = .ok (.goto 10, 3) := by decide +kernel
theorem d_Mo_reach_268 : decode m_Mo_reach.2.1 268 = .ok (.aload_n 0, 1) := by decide +kernel
theorem d_Mo_reach_269 : decode m_Mo_reach.2.1 269 = .ok (.getfield 62, 3) := by decide +kernel
theorem d_Mo_reach_272 : decode m_Mo_reach.2.1 272 = .ok (.iload 9, 2) := by decide +kernel
theorem d_Mo_reach_274 : decode m_Mo_reach.2.1 274 = .ok (.iaload, 1) := by decide +kernel
theorem d_Mo_reach_275 : decode m_Mo_reach.2.1 275 = .ok (.iastore, 1) := by decide +kernel
theorem d_Mo_reach_276 : decode m_Mo_reach.2.1 276 = .ok (.iload 4, 2) := by decide +kernel
theorem d_Mo_reach_278 : decode m_Mo_reach.2.1 278 = .ok (.aload_n 0, 1) := by decide +kernel
theorem d_Mo_reach_279 : decode m_Mo_reach.2.1 279 = .ok (.getfield 19, 3) := by decide +kernel
theorem d_Mo_reach_282 : decode m_Mo_reach.2.1 282 = .ok (.iload_n 1, 1) := by decide +kernel
theorem d_Mo_reach_283 : decode m_Mo_reach.2.1 283 = .ok (.iaload, 1) := by decide +kernel
theorem d_Mo_reach_284 : decode m_Mo_reach.2.1 284 = .ok (.if_icmp .ne 19, 3) := by decide +kernel
theorem d_Mo_reach_287 : decode m_Mo_reach.2.1 287 = .ok (.aload_n 0, 1) := by decide +kernel
theorem d_Mo_reach_288 : decode m_Mo_reach.2.1 288 = .ok (.iload 5, 2) := by decide +kernel
theorem d_Mo_reach_290 : decode m_Mo_reach.2.1 290 = .ok (.putfield 165, 3) := by decide +kernel
theorem d_Mo_reach_293 : decode m_Mo_reach.2.1 293 = .ok (.aload_n 0, 1) := by decide +kernel
theorem d_Mo_reach_294 : decode m_Mo_reach.2.1 294 = .ok (.iconst 4, 1) := by decide +kernel
theorem d_Mo_reach_295 : decode m_Mo_reach.2.1 295 = .ok (.putfield 168, 3) := by decide +kernel
theorem d_Mo_reach_298 : decode m_Mo_reach.2.1 298 = .ok (.aload_n 0, 1) := by decide +kernel
theorem d_Mo_reach_299 : decode m_Mo_reach.2.1 299 = .ok (.iload_n 1, 1) := by decide +kernel
theorem d_Mo_reach_300 : decode m_Mo_reach.2.1 300 = .ok (.invokevirtual 171, 3) := by decide +kernel
theorem d_Mo_reach_303 : decode m_Mo_reach.2.1 303 = .ok (.return_, 1) := by decide +kernel
theorem d_Mo_value_0 : decode m_Mo_value.2.1 0 = .ok (.iload 4, 2) := by decide +kernel
theorem d_Mo_value_2 : decode m_Mo_value.2.1 2 = .ok (.ifCond .eq 13, 3) := by decide +kernel
theorem d_Mo_value_5 : decode m_Mo_value.2.1 5 = .ok (.aload_n 0, 1) := by decide +kernel
theorem d_Mo_value_6 : decode m_Mo_value.2.1 6 = .ok (.getfield 13, 3) := by decide +kernel
theorem d_Mo_value_9 : decode m_Mo_value.2.1 9 = .ok (.iload 5, 2) := by decide +kernel
theorem d_Mo_value_11 : decode m_Mo_value.2.1 11 = .ok (.iaload, 1) := by decide +kernel
theorem d_Mo_value_12 : decode m_Mo_value.2.1 12 = .ok (.goto 20, 3) := by decide +kernel
theorem d_Mo_value_15 : decode m_Mo_value.2.1 15 = .ok (.aload_n 0, 1) := by decide +kernel
theorem d_Mo_value_16 : decode m_Mo_value.2.1 16 = .ok (.getfield 13, 3) := by decide +kernel
theorem d_Mo_value_19 : decode m_Mo_value.2.1 19 = .ok (.iload 5, 2) := by decide +kernel
theorem d_Mo_value_21 : decode m_Mo_value.2.1 21 = .ok (.iaload, 1) := by decide +kernel
theorem d_Mo_value_22 : decode m_Mo_value.2.1 22 = .ok (.aload_n 0, 1) := by decide +kernel
theorem d_Mo_value_23 : decode m_Mo_value.2.1 23 = .ok (.getfield 16, 3) := by decide +kernel
theorem d_Mo_value_26 : decode m_Mo_value.2.1 26 = .ok (.iload 5, 2) := by decide +kernel
theorem d_Mo_value_28 : decode m_Mo_value.2.1 28 = .ok (.iaload, 1) := by decide +kernel
theorem d_Mo_value_29 : decode m_Mo_value.2.1 29 = .ok (.invokestatic 133, 3) := by decide +kernel
theorem d_Mo_value_32 : decode m_Mo_value.2.1 32 = .ok (.istore 6, 2) := by decide +kernel
theorem d_Mo_value_34 : decode m_Mo_value.2.1 34 = .ok (.iload 4, 2) := by decide +kernel
theorem d_Mo_value_36 : decode m_Mo_value.2.1 36 = .ok (.ifCond .eq 13, 3) := by decide +kernel
theorem d_Mo_value_39 : decode m_Mo_value.2.1 39 = .ok (.aload_n 0, 1) := by decide +kernel
theorem d_Mo_value_40 : decode m_Mo_value.2.1 40 = .ok (.getfield 16, 3) := by decide +kernel
theorem d_Mo_value_43 : decode m_Mo_value.2.1 43 = .ok (.iload 5, 2) := by decide +kernel
theorem d_Mo_value_45 : decode m_Mo_value.2.1 45 = .ok (.iaload, 1) := by decide +kernel
theorem d_Mo_value_46 : decode m_Mo_value.2.1 46 = .ok (.goto 21, 3) := by decide +kernel
theorem d_Mo_value_49 : decode m_Mo_value.2.1 49 = .ok (.aload_n 0, 1) := by decide +kernel
theorem d_Mo_value_50 : decode m_Mo_value.2.1 50 = .ok (.getfield 13, 3) := by decide +kernel
theorem d_Mo_value_53 : decode m_Mo_value.2.1 53 = .ok (.iload 5, 2) := by decide +kernel
theorem d_Mo_value_55 : decode m_Mo_value.2.1 55 = .ok (.iaload, 1) := by decide +kernel
theorem d_Mo_value_56 : decode m_Mo_value.2.1 56 = .ok (.aload_n 0, 1) := by decide +kernel
theorem d_Mo_value_57 : decode m_Mo_value.2.1 57 = .ok (.getfield 16, 3) := by decide +kernel
theorem d_Mo_value_60 : decode m_Mo_value.2.1 60 = .ok (.iload 5, 2) := by decide +kernel
theorem d_Mo_value_62 : decode m_Mo_value.2.1 62 = .ok (.iaload, 1) := by decide +kernel
theorem d_Mo_value_63 : decode m_Mo_value.2.1 63 = .ok (.iload_n 2, 1) := by decide +kernel
theorem d_Mo_value_64 : decode m_Mo_value.2.1 64 = .ok (.invokestatic 175, 3) := by decide +kernel
theorem d_Mo_value_67 : decode m_Mo_value.2.1 67 = .ok (.istore 7, 2) := by decide +kernel
theorem d_Mo_value_69 : decode m_Mo_value.2.1 69 = .ok (.iload_n 3, 1) := by decide +kernel
theorem d_Mo_value_70 : decode m_Mo_value.2.1 70 = .ok (.ifCond .eq 46, 3) := by decide +kernel
theorem d_Mo_value_73 : decode m_Mo_value.2.1 73 = .ok (.aload_n 0, 1) := by decide +kernel
theorem d_Mo_value_74 : decode m_Mo_value.2.1 74 = .ok (.getfield 34, 3) := by decide +kernel
theorem d_Mo_value_77 : decode m_Mo_value.2.1 77 = .ok (.iload_n 1, 1) := by decide +kernel
theorem d_Mo_value_78 : decode m_Mo_value.2.1 78 = .ok (.baload, 1) := by decide +kernel
theorem d_Mo_value_79 : decode m_Mo_value.2.1 79 = .ok (.ifCond .ne 37, 3) := by decide +kernel
theorem d_Mo_value_82 : decode m_Mo_value.2.1 82 = .ok (.iload 6, 2) := by decide +kernel
theorem d_Mo_value_84 : decode m_Mo_value.2.1 84 = .ok (.iload 7, 2) := by decide +kernel
theorem d_Mo_value_86 : decode m_Mo_value.2.1 86 = .ok (.iload_n 2, 1) := by decide +kernel
theorem d_Mo_value_87 : decode m_Mo_value.2.1 87 = .ok (.invokestatic 178, 3) := by decide +kernel
theorem d_Mo_value_90 : decode m_Mo_value.2.1 90 = .ok (.ifCond .eq 26, 3) := by decide +kernel
theorem d_Mo_value_93 : decode m_Mo_value.2.1 93 = .ok (.aload_n 0, 1) := by decide +kernel
theorem d_Mo_value_94 : decode m_Mo_value.2.1 94 = .ok (.getfield 34, 3) := by decide +kernel
theorem d_Mo_value_97 : decode m_Mo_value.2.1 97 = .ok (.iload_n 1, 1) := by decide +kernel
theorem d_Mo_value_98 : decode m_Mo_value.2.1 98 = .ok (.iconst 1, 1) := by decide +kernel
theorem d_Mo_value_99 : decode m_Mo_value.2.1 99 = .ok (.bastore, 1) := by decide +kernel
theorem d_Mo_value_100 : decode m_Mo_value.2.1 100 = .ok (.aload_n 0, 1) := by decide +kernel
theorem d_Mo_value_101 : decode m_Mo_value.2.1 101 = .ok (.getfield 38, 3) := by decide +kernel
theorem d_Mo_value_104 : decode m_Mo_value.2.1 104 = .ok (.iload_n 1, 1) := by decide +kernel
theorem d_Mo_value_105 : decode m_Mo_value.2.1 105 = .ok (.iload 6, 2) := by decide +kernel
theorem d_Mo_value_107 : decode m_Mo_value.2.1 107 = .ok (.iastore, 1) := by decide +kernel
theorem d_Mo_value_108 : decode m_Mo_value.2.1 108 = .ok (.aload_n 0, 1) := by decide +kernel
theorem d_Mo_value_109 : decode m_Mo_value.2.1 109 = .ok (.getfield 41, 3) := by decide +kernel
theorem d_Mo_value_112 : decode m_Mo_value.2.1 112 = .ok (.iload_n 1, 1) := by decide +kernel
theorem d_Mo_value_113 : decode m_Mo_value.2.1 113 = .ok (.iload 7, 2) := by decide +kernel
theorem d_Mo_value_115 : decode m_Mo_value.2.1 115 = .ok (.iastore, 1) := by decide +kernel
theorem d_Mo_value_116 : decode m_Mo_value.2.1 116 = .ok (.return_, 1) := by decide +kernel
theorem d_Mo_witness_0 : decode m_Mo_witness.2.1 0 = .ok (.iload_n 2, 1) := by decide +kernel
theorem d_Mo_witness_1 : decode m_Mo_witness.2.1 1 = .ok (.iconst 1, 1) := by decide +kernel
theorem d_Mo_witness_2 : decode m_Mo_witness.2.1 2 = .ok (.ixor, 1) := by decide +kernel
theorem d_Mo_witness_3 : decode m_Mo_witness.2.1 3 = .ok (.istore_n 3, 1) := by decide +kernel
theorem d_Mo_witness_4 : decode m_Mo_witness.2.1 4 = .ok (.iload_n 2, 1) := by decide +kernel
theorem d_Mo_witness_5 : decode m_Mo_witness.2.1 5 = .ok (.iconst 2, 1) := by decide +kernel
theorem d_Mo_witness_6 : decode m_Mo_witness.2.1 6 = .ok (.if_icmp .ge 7, 3) := by decide +kernel
theorem d_Mo_witness_9 : decode m_Mo_witness.2.1 9 = .ok (.iconst 2, 1) := by decide +kernel
theorem d_Mo_witness_10 : decode m_Mo_witness.2.1 10 = .ok (.goto 4, 3) := by decide +kernel
theorem d_Mo_witness_13 : decode m_Mo_witness.2.1 13 = .ok (.iconst 0, 1) := by decide +kernel
theorem d_Mo_witness_14 : decode m_Mo_witness.2.1 14 = .ok (.istore 4, 2) := by decide +kernel
theorem d_Mo_witness_16 : decode m_Mo_witness.2.1 16 = .ok (.iload_n 0, 1) := by decide +kernel
theorem d_Mo_witness_17 : decode m_Mo_witness.2.1 17 = .ok (.iload_n 1, 1) := by decide +kernel
theorem d_Mo_witness_18 : decode m_Mo_witness.2.1 18 = .ok (.iload 4, 2) := by decide +kernel
theorem d_Mo_witness_20 : decode m_Mo_witness.2.1 20 = .ok (.invokestatic 120, 3) := by decide +kernel
theorem d_Mo_witness_23 : decode m_Mo_witness.2.1 23 = .ok (.iload 4, 2) := by decide +kernel
theorem d_Mo_witness_25 : decode m_Mo_witness.2.1 25 = .ok (.invokestatic 124, 3) := by decide +kernel
theorem d_Mo_witness_28 : decode m_Mo_witness.2.1 28 = .ok (.iload_n 0, 1) := by decide +kernel
theorem d_Mo_witness_29 : decode m_Mo_witness.2.1 29 = .ok (.iload_n 1, 1) := by decide +kernel
theorem d_Mo_witness_30 : decode m_Mo_witness.2.1 30 = .ok (.iload 4, 2) := by decide +kernel
theorem d_Mo_witness_32 : decode m_Mo_witness.2.1 32 = .ok (.iconst 1, 1) := by decide +kernel
theorem d_Mo_witness_33 : decode m_Mo_witness.2.1 33 = .ok (.iadd, 1) := by decide +kernel
theorem d_Mo_witness_34 : decode m_Mo_witness.2.1 34 = .ok (.invokestatic 120, 3) := by decide +kernel
theorem d_Mo_witness_37 : decode m_Mo_witness.2.1 37 = .ok (.iload 4, 2) := by decide +kernel
theorem d_Mo_witness_39 : decode m_Mo_witness.2.1 39 = .ok (.iconst 1, 1) := by decide +kernel
theorem d_Mo_witness_40 : decode m_Mo_witness.2.1 40 = .ok (.iadd, 1) := by decide +kernel
theorem d_Mo_witness_41 : decode m_Mo_witness.2.1 41 = .ok (.invokestatic 124, 3) := by decide +kernel
theorem d_Mo_witness_44 : decode m_Mo_witness.2.1 44 = .ok (.invokestatic 127, 3) := by decide +kernel
theorem d_Mo_witness_47 : decode m_Mo_witness.2.1 47 = .ok (.istore 5, 2) := by decide +kernel
theorem d_Mo_witness_49 : decode m_Mo_witness.2.1 49 = .ok (.iload_n 0, 1) := by decide +kernel
theorem d_Mo_witness_50 : decode m_Mo_witness.2.1 50 = .ok (.iload_n 1, 1) := by decide +kernel
theorem d_Mo_witness_51 : decode m_Mo_witness.2.1 51 = .ok (.iload_n 2, 1) := by decide +kernel
theorem d_Mo_witness_52 : decode m_Mo_witness.2.1 52 = .ok (.invokestatic 120, 3) := by decide +kernel
theorem d_Mo_witness_55 : decode m_Mo_witness.2.1 55 = .ok (.sipush 256, 3) := by decide +kernel
theorem d_Mo_witness_58 : decode m_Mo_witness.2.1 58 = .ok (.iload_n 0, 1) := by decide +kernel
theorem d_Mo_witness_59 : decode m_Mo_witness.2.1 59 = .ok (.iload_n 1, 1) := by decide +kernel
theorem d_Mo_witness_60 : decode m_Mo_witness.2.1 60 = .ok (.iload_n 3, 1) := by decide +kernel
theorem d_Mo_witness_61 : decode m_Mo_witness.2.1 61 = .ok (.invokestatic 120, 3) := by decide +kernel
theorem d_Mo_witness_64 : decode m_Mo_witness.2.1 64 = .ok (.iload_n 3, 1) := by decide +kernel
theorem d_Mo_witness_65 : decode m_Mo_witness.2.1 65 = .ok (.invokestatic 124, 3) := by decide +kernel
theorem d_Mo_witness_68 : decode m_Mo_witness.2.1 68 = .ok (.imul, 1) := by decide +kernel
theorem d_Mo_witness_69 : decode m_Mo_witness.2.1 69 = .ok (.iadd, 1) := by decide +kernel
theorem d_Mo_witness_70 : decode m_Mo_witness.2.1 70 = .ok (.ldc 118, 2) := by decide +kernel
theorem d_Mo_witness_72 : decode m_Mo_witness.2.1 72 = .ok (.iload 5, 2) := by decide +kernel
theorem d_Mo_witness_74 : decode m_Mo_witness.2.1 74 = .ok (.imul, 1) := by decide +kernel
theorem d_Mo_witness_75 : decode m_Mo_witness.2.1 75 = .ok (.iadd, 1) := by decide +kernel
theorem d_Mo_witness_76 : decode m_Mo_witness.2.1 76 = .ok (.ireturn, 1) := by decide +kernel
theorem d_Mo_right_0 : decode m_Mo_right.2.1 0 = .ok (.iload_n 1, 1) := by decide +kernel
theorem d_Mo_right_1 : decode m_Mo_right.2.1 1 = .ok (.sipush 255, 3) := by decide +kernel
theorem d_Mo_right_4 : decode m_Mo_right.2.1 4 = .ok (.iand, 1) := by decide +kernel
theorem d_Mo_right_5 : decode m_Mo_right.2.1 5 = .ok (.iload_n 2, 1) := by decide +kernel
theorem d_Mo_right_6 : decode m_Mo_right.2.1 6 = .ok (.invokestatic 124, 3) := by decide +kernel
theorem d_Mo_right_9 : decode m_Mo_right.2.1 9 = .ok (.istore_n 3, 1) := by decide +kernel
theorem d_Mo_right_10 : decode m_Mo_right.2.1 10 = .ok (.iload_n 1, 1) := by decide +kernel
theorem d_Mo_right_11 : decode m_Mo_right.2.1 11 = .ok (.bipush 8, 2) := by decide +kernel
theorem d_Mo_right_13 : decode m_Mo_right.2.1 13 = .ok (.ishr, 1) := by decide +kernel
theorem d_Mo_right_14 : decode m_Mo_right.2.1 14 = .ok (.sipush 255, 3) := by decide +kernel
theorem d_Mo_right_17 : decode m_Mo_right.2.1 17 = .ok (.iand, 1) := by decide +kernel
theorem d_Mo_right_18 : decode m_Mo_right.2.1 18 = .ok (.istore 4, 2) := by decide +kernel
theorem d_Mo_right_20 : decode m_Mo_right.2.1 20 = .ok (.iload_n 2, 1) := by decide +kernel
theorem d_Mo_right_21 : decode m_Mo_right.2.1 21 = .ok (.iconst 2, 1) := by decide +kernel
theorem d_Mo_right_22 : decode m_Mo_right.2.1 22 = .ok (.irem, 1) := by decide +kernel
theorem d_Mo_right_23 : decode m_Mo_right.2.1 23 = .ok (.ifCond .ne 12, 3) := by decide +kernel
theorem d_Mo_right_26 : decode m_Mo_right.2.1 26 = .ok (.iload_n 3, 1) := by decide +kernel
theorem d_Mo_right_27 : decode m_Mo_right.2.1 27 = .ok (.iload 4, 2) := by decide +kernel
theorem d_Mo_right_29 : decode m_Mo_right.2.1 29 = .ok (.invokestatic 127, 3) := by decide +kernel
theorem d_Mo_right_32 : decode m_Mo_right.2.1 32 = .ok (.goto 9, 3) := by decide +kernel
theorem d_Mo_right_35 : decode m_Mo_right.2.1 35 = .ok (.iload 4, 2) := by decide +kernel
theorem d_Mo_right_37 : decode m_Mo_right.2.1 37 = .ok (.iload_n 3, 1) := by decide +kernel
theorem d_Mo_right_38 : decode m_Mo_right.2.1 38 = .ok (.invokestatic 127, 3) := by decide +kernel
theorem d_Mo_right_41 : decode m_Mo_right.2.1 41 = .ok (.istore 5, 2) := by decide +kernel
theorem d_Mo_right_43 : decode m_Mo_right.2.1 43 = .ok (.iload_n 1, 1) := by decide +kernel
theorem d_Mo_right_44 : decode m_Mo_right.2.1 44 = .ok (.bipush 16, 2) := by decide +kernel
theorem d_Mo_right_46 : decode m_Mo_right.2.1 46 = .ok (.iushr, 1) := by decide +kernel
theorem d_Mo_right_47 : decode m_Mo_right.2.1 47 = .ok (.istore 6, 2) := by decide +kernel
theorem d_Mo_right_49 : decode m_Mo_right.2.1 49 = .ok (.iload_n 0, 1) := by decide +kernel
theorem d_Mo_right_50 : decode m_Mo_right.2.1 50 = .ok (.iload_n 2, 1) := by decide +kernel
theorem d_Mo_right_51 : decode m_Mo_right.2.1 51 = .ok (.iconst 2, 1) := by decide +kernel
theorem d_Mo_right_52 : decode m_Mo_right.2.1 52 = .ok (.if_icmp .ge 13, 3) := by decide +kernel
theorem d_Mo_right_55 : decode m_Mo_right.2.1 55 = .ok (.iload 5, 2) := by decide +kernel
theorem d_Mo_right_57 : decode m_Mo_right.2.1 57 = .ok (.iload 6, 2) := by decide +kernel
theorem d_Mo_right_59 : decode m_Mo_right.2.1 59 = .ok (.invokestatic 130, 3) := by decide +kernel
theorem d_Mo_right_62 : decode m_Mo_right.2.1 62 = .ok (.goto 10, 3) := by decide +kernel
theorem d_Mo_right_65 : decode m_Mo_right.2.1 65 = .ok (.iload 6, 2) := by decide +kernel
theorem d_Mo_right_67 : decode m_Mo_right.2.1 67 = .ok (.iload 5, 2) := by decide +kernel
theorem d_Mo_right_69 : decode m_Mo_right.2.1 69 = .ok (.invokestatic 130, 3) := by decide +kernel
theorem d_Mo_right_72 : decode m_Mo_right.2.1 72 = .ok (.if_icmp .ne 7, 3) := by decide +kernel
theorem d_Mo_right_75 : decode m_Mo_right.2.1 75 = .ok (.iconst 1, 1) := by decide +kernel
theorem d_Mo_right_76 : decode m_Mo_right.2.1 76 = .ok (.goto 4, 3) := by decide +kernel
theorem d_Mo_right_79 : decode m_Mo_right.2.1 79 = .ok (.iconst 0, 1) := by decide +kernel
theorem d_Mo_right_80 : decode m_Mo_right.2.1 80 = .ok (.ireturn, 1) := by decide +kernel
theorem d_Mo_answer_0 : decode m_Mo_answer.2.1 0 = .ok (.iload_n 3, 1) := by decide +kernel
theorem d_Mo_answer_1 : decode m_Mo_answer.2.1 1 = .ok (.iconst 1, 1) := by decide +kernel
theorem d_Mo_answer_2 : decode m_Mo_answer.2.1 2 = .ok (.if_icmp .ne 70, 3) := by decide +kernel
theorem d_Mo_answer_5 : decode m_Mo_answer.2.1 5 = .ok (.aload_n 0, 1) := by decide +kernel
theorem d_Mo_answer_6 : decode m_Mo_answer.2.1 6 = .ok (.getfield 44, 3) := by decide +kernel
theorem d_Mo_answer_9 : decode m_Mo_answer.2.1 9 = .ok (.iload_n 1, 1) := by decide +kernel
theorem d_Mo_answer_10 : decode m_Mo_answer.2.1 10 = .ok (.baload, 1) := by decide +kernel
theorem d_Mo_answer_11 : decode m_Mo_answer.2.1 11 = .ok (.ifCond .ne 61, 3) := by decide +kernel
theorem d_Mo_answer_14 : decode m_Mo_answer.2.1 14 = .ok (.aload_n 0, 1) := by decide +kernel
theorem d_Mo_answer_15 : decode m_Mo_answer.2.1 15 = .ok (.getfield 13, 3) := by decide +kernel
theorem d_Mo_answer_18 : decode m_Mo_answer.2.1 18 = .ok (.iload 4, 2) := by decide +kernel
theorem d_Mo_answer_20 : decode m_Mo_answer.2.1 20 = .ok (.iaload, 1) := by decide +kernel
theorem d_Mo_answer_21 : decode m_Mo_answer.2.1 21 = .ok (.aload_n 0, 1) := by decide +kernel
theorem d_Mo_answer_22 : decode m_Mo_answer.2.1 22 = .ok (.getfield 16, 3) := by decide +kernel
theorem d_Mo_answer_25 : decode m_Mo_answer.2.1 25 = .ok (.iload 4, 2) := by decide +kernel
theorem d_Mo_answer_27 : decode m_Mo_answer.2.1 27 = .ok (.iaload, 1) := by decide +kernel
theorem d_Mo_answer_28 : decode m_Mo_answer.2.1 28 = .ok (.iload_n 2, 1) := by decide +kernel
theorem d_Mo_answer_29 : decode m_Mo_answer.2.1 29 = .ok (.invokestatic 178, 3) := by decide +kernel
theorem d_Mo_answer_32 : decode m_Mo_answer.2.1 32 = .ok (.ifCond .eq 40, 3) := by decide +kernel
theorem d_Mo_answer_35 : decode m_Mo_answer.2.1 35 = .ok (.aload_n 0, 1) := by decide +kernel
theorem d_Mo_answer_36 : decode m_Mo_answer.2.1 36 = .ok (.getfield 44, 3) := by decide +kernel
theorem d_Mo_answer_39 : decode m_Mo_answer.2.1 39 = .ok (.iload_n 1, 1) := by decide +kernel
theorem d_Mo_answer_40 : decode m_Mo_answer.2.1 40 = .ok (.iconst 1, 1) := by decide +kernel
theorem d_Mo_answer_41 : decode m_Mo_answer.2.1 41 = .ok (.bastore, 1) := by decide +kernel
theorem d_Mo_answer_42 : decode m_Mo_answer.2.1 42 = .ok (.aload_n 0, 1) := by decide +kernel
theorem d_Mo_answer_43 : decode m_Mo_answer.2.1 43 = .ok (.getfield 47, 3) := by decide +kernel
theorem d_Mo_answer_46 : decode m_Mo_answer.2.1 46 = .ok (.iload_n 1, 1) := by decide +kernel
theorem d_Mo_answer_47 : decode m_Mo_answer.2.1 47 = .ok (.aload_n 0, 1) := by decide +kernel
theorem d_Mo_answer_48 : decode m_Mo_answer.2.1 48 = .ok (.getfield 13, 3) := by decide +kernel
theorem d_Mo_answer_51 : decode m_Mo_answer.2.1 51 = .ok (.iload 4, 2) := by decide +kernel
theorem d_Mo_answer_53 : decode m_Mo_answer.2.1 53 = .ok (.iaload, 1) := by decide +kernel
theorem d_Mo_answer_54 : decode m_Mo_answer.2.1 54 = .ok (.iastore, 1) := by decide +kernel
theorem d_Mo_answer_55 : decode m_Mo_answer.2.1 55 = .ok (.aload_n 0, 1) := by decide +kernel
theorem d_Mo_answer_56 : decode m_Mo_answer.2.1 56 = .ok (.getfield 50, 3) := by decide +kernel
theorem d_Mo_answer_59 : decode m_Mo_answer.2.1 59 = .ok (.iload_n 1, 1) := by decide +kernel
theorem d_Mo_answer_60 : decode m_Mo_answer.2.1 60 = .ok (.aload_n 0, 1) := by decide +kernel
theorem d_Mo_answer_61 : decode m_Mo_answer.2.1 61 = .ok (.getfield 16, 3) := by decide +kernel
theorem d_Mo_answer_64 : decode m_Mo_answer.2.1 64 = .ok (.iload 4, 2) := by decide +kernel
theorem d_Mo_answer_66 : decode m_Mo_answer.2.1 66 = .ok (.iaload, 1) := by decide +kernel
theorem d_Mo_answer_67 : decode m_Mo_answer.2.1 67 = .ok (.sipush 255, 3) := by decide +kernel
theorem d_Mo_answer_70 : decode m_Mo_answer.2.1 70 = .ok (.iand, 1) := by decide +kernel
theorem d_Mo_answer_71 : decode m_Mo_answer.2.1 71 = .ok (.iastore, 1) := by decide +kernel
theorem d_Mo_answer_72 : decode m_Mo_answer.2.1 72 = .ok (.iload_n 3, 1) := by decide +kernel
theorem d_Mo_answer_73 : decode m_Mo_answer.2.1 73 = .ok (.iconst 2, 1) := by decide +kernel
theorem d_Mo_answer_74 : decode m_Mo_answer.2.1 74 = .ok (.if_icmp .ne 32, 3) := by decide +kernel
theorem d_Mo_answer_77 : decode m_Mo_answer.2.1 77 = .ok (.aload_n 0, 1) := by decide +kernel
theorem d_Mo_answer_78 : decode m_Mo_answer.2.1 78 = .ok (.getfield 53, 3) := by decide +kernel
theorem d_Mo_answer_81 : decode m_Mo_answer.2.1 81 = .ok (.iload_n 1, 1) := by decide +kernel
theorem d_Mo_answer_82 : decode m_Mo_answer.2.1 82 = .ok (.baload, 1) := by decide +kernel
theorem d_Mo_answer_83 : decode m_Mo_answer.2.1 83 = .ok (.ifCond .ne 23, 3) := by decide +kernel
theorem d_Mo_answer_86 : decode m_Mo_answer.2.1 86 = .ok (.aload_n 0, 1) := by decide +kernel
theorem d_Mo_answer_87 : decode m_Mo_answer.2.1 87 = .ok (.getfield 53, 3) := by decide +kernel
theorem d_Mo_answer_90 : decode m_Mo_answer.2.1 90 = .ok (.iload_n 1, 1) := by decide +kernel
theorem d_Mo_answer_91 : decode m_Mo_answer.2.1 91 = .ok (.iconst 1, 1) := by decide +kernel
theorem d_Mo_answer_92 : decode m_Mo_answer.2.1 92 = .ok (.bastore, 1) := by decide +kernel
theorem d_Mo_answer_93 : decode m_Mo_answer.2.1 93 = .ok (.aload_n 0, 1) := by decide +kernel
theorem d_Mo_answer_94 : decode m_Mo_answer.2.1 94 = .ok (.getfield 56, 3) := by decide +kernel
theorem d_Mo_answer_97 : decode m_Mo_answer.2.1 97 = .ok (.iload_n 1, 1) := by decide +kernel
theorem d_Mo_answer_98 : decode m_Mo_answer.2.1 98 = .ok (.aload_n 0, 1) := by decide +kernel
theorem d_Mo_answer_99 : decode m_Mo_answer.2.1 99 = .ok (.getfield 13, 3) := by decide +kernel
theorem d_Mo_answer_102 : decode m_Mo_answer.2.1 102 = .ok (.iload 4, 2) := by decide +kernel
theorem d_Mo_answer_104 : decode m_Mo_answer.2.1 104 = .ok (.iaload, 1) := by decide +kernel
theorem d_Mo_answer_105 : decode m_Mo_answer.2.1 105 = .ok (.iastore, 1) := by decide +kernel
theorem d_Mo_answer_106 : decode m_Mo_answer.2.1 106 = .ok (.return_, 1) := by decide +kernel
theorem d_Mo_settle_0 : decode m_Mo_settle.2.1 0 = .ok (.aload_n 0, 1) := by decide +kernel
theorem d_Mo_settle_1 : decode m_Mo_settle.2.1 1 = .ok (.getfield 19, 3) := by decide +kernel
theorem d_Mo_settle_4 : decode m_Mo_settle.2.1 4 = .ok (.iload_n 1, 1) := by decide +kernel
theorem d_Mo_settle_5 : decode m_Mo_settle.2.1 5 = .ok (.iaload, 1) := by decide +kernel
theorem d_Mo_settle_6 : decode m_Mo_settle.2.1 6 = .ok (.iconst 4, 1) := by decide +kernel
theorem d_Mo_settle_7 : decode m_Mo_settle.2.1 7 = .ok (.if_icmp .ge 79, 3) := by decide +kernel
theorem d_Mo_settle_10 : decode m_Mo_settle.2.1 10 = .ok (.aload_n 0, 1) := by decide +kernel
theorem d_Mo_settle_11 : decode m_Mo_settle.2.1 11 = .ok (.getfield 165, 3) := by decide +kernel
theorem d_Mo_settle_14 : decode m_Mo_settle.2.1 14 = .ok (.ifCond .ge 11, 3) := by decide +kernel
theorem d_Mo_settle_17 : decode m_Mo_settle.2.1 17 = .ok (.aload_n 0, 1) := by decide +kernel
theorem d_Mo_settle_18 : decode m_Mo_settle.2.1 18 = .ok (.getfield 168, 3) := by decide +kernel
theorem d_Mo_settle_21 : decode m_Mo_settle.2.1 21 = .ok (.iconst 4, 1) := by decide +kernel
theorem d_Mo_settle_22 : decode m_Mo_settle.2.1 22 = .ok (.if_icmp .ge 64, 3) := by decide +kernel
theorem d_Mo_settle_25 : decode m_Mo_settle.2.1 25 = .ok (.aload_n 0, 1) := by decide +kernel
theorem d_Mo_settle_26 : decode m_Mo_settle.2.1 26 = .ok (.getfield 165, 3) := by decide +kernel
theorem d_Mo_settle_29 : decode m_Mo_settle.2.1 29 = .ok (.istore_n 2, 1) := by decide +kernel
theorem d_Mo_settle_30 : decode m_Mo_settle.2.1 30 = .ok (.iload_n 2, 1) := by decide +kernel
theorem d_Mo_settle_31 : decode m_Mo_settle.2.1 31 = .ok (.ifCond .ge 18, 3) := by decide +kernel
theorem d_Mo_settle_34 : decode m_Mo_settle.2.1 34 = .ok (.aload_n 0, 1) := by decide +kernel
theorem d_Mo_settle_35 : decode m_Mo_settle.2.1 35 = .ok (.getfield 168, 3) := by decide +kernel
theorem d_Mo_settle_38 : decode m_Mo_settle.2.1 38 = .ok (.istore_n 2, 1) := by decide +kernel
theorem d_Mo_settle_39 : decode m_Mo_settle.2.1 39 = .ok (.aload_n 0, 1) := by decide +kernel
theorem d_Mo_settle_40 : decode m_Mo_settle.2.1 40 = .ok (.dup, 1) := by decide +kernel
theorem d_Mo_settle_41 : decode m_Mo_settle.2.1 41 = .ok (.getfield 168, 3) := by decide +kernel
theorem d_Mo_settle_44 : decode m_Mo_settle.2.1 44 = .ok (.iconst 1, 1) := by decide +kernel
theorem d_Mo_settle_45 : decode m_Mo_settle.2.1 45 = .ok (.iadd, 1) := by decide +kernel
theorem d_Mo_settle_46 : decode m_Mo_settle.2.1 46 = .ok (.putfield 168, 3) := by decide +kernel
theorem d_Mo_settle_49 : decode m_Mo_settle.2.1 49 = .ok (.aload_n 0, 1) := by decide +kernel
theorem d_Mo_settle_50 : decode m_Mo_settle.2.1 50 = .ok (.iconst (-1), 1) := by decide +kernel
theorem d_Mo_settle_51 : decode m_Mo_settle.2.1 51 = .ok (.putfield 165, 3) := by decide +kernel
theorem d_Mo_settle_54 : decode m_Mo_settle.2.1 54 = .ok (.iconst 0, 1) := by decide +kernel
theorem d_Mo_settle_55 : decode m_Mo_settle.2.1 55 = .ok (.istore_n 3, 1) := by decide +kernel
theorem d_Mo_settle_56 : decode m_Mo_settle.2.1 56 = .ok (.iload_n 3, 1) := by decide +kernel
theorem d_Mo_settle_57 : decode m_Mo_settle.2.1 57 = .ok (.sipush 300, 3) := by decide +kernel
theorem d_Mo_settle_60 : decode m_Mo_settle.2.1 60 = .ok (.if_icmp .ge 18, 3) := by decide +kernel
theorem d_Mo_settle_63 : decode m_Mo_settle.2.1 63 = .ok (.aload_n 0, 1) := by decide +kernel
theorem d_Mo_settle_64 : decode m_Mo_settle.2.1 64 = .ok (.iload_n 1, 1) := by decide +kernel
theorem d_Mo_settle_65 : decode m_Mo_settle.2.1 65 = .ok (.iload_n 2, 1) := by decide +kernel
theorem d_Mo_settle_66 : decode m_Mo_settle.2.1 66 = .ok (.invokevirtual 196, 3) := by decide +kernel
theorem d_Mo_settle_69 : decode m_Mo_settle.2.1 69 = .ok (.ifCond .eq 9, 3) := by decide +kernel
theorem d_Mo_settle_72 : decode m_Mo_settle.2.1 72 = .ok (.iinc 3 1, 3) := by decide +kernel
theorem d_Mo_settle_75 : decode m_Mo_settle.2.1 75 = .ok (.goto (-19), 3) := by decide +kernel
theorem d_Mo_settle_78 : decode m_Mo_settle.2.1 78 = .ok (.aload_n 0, 1) := by decide +kernel
theorem d_Mo_settle_79 : decode m_Mo_settle.2.1 79 = .ok (.iload_n 1, 1) := by decide +kernel
theorem d_Mo_settle_80 : decode m_Mo_settle.2.1 80 = .ok (.invokevirtual 199, 3) := by decide +kernel
theorem d_Mo_settle_83 : decode m_Mo_settle.2.1 83 = .ok (.goto (-83), 3) := by decide +kernel
theorem d_Mo_settle_86 : decode m_Mo_settle.2.1 86 = .ok (.return_, 1) := by decide +kernel
theorem d_Mo_rule_0 : decode m_Mo_rule.2.1 0 = .ok (.aload_n 0, 1) := by decide +kernel
theorem d_Mo_rule_1 : decode m_Mo_rule.2.1 1 = .ok (.getfield 19, 3) := by decide +kernel
theorem d_Mo_rule_4 : decode m_Mo_rule.2.1 4 = .ok (.iload_n 1, 1) := by decide +kernel
theorem d_Mo_rule_5 : decode m_Mo_rule.2.1 5 = .ok (.iaload, 1) := by decide +kernel
theorem d_Mo_rule_6 : decode m_Mo_rule.2.1 6 = .ok (.istore_n 3, 1) := by decide +kernel
theorem d_Mo_rule_7 : decode m_Mo_rule.2.1 7 = .ok (.bipush 16, 2) := by decide +kernel
theorem d_Mo_rule_9 : decode m_Mo_rule.2.1 9 = .ok (.iload_n 1, 1) := by decide +kernel
theorem d_Mo_rule_10 : decode m_Mo_rule.2.1 10 = .ok (.imul, 1) := by decide +kernel
theorem d_Mo_rule_11 : decode m_Mo_rule.2.1 11 = .ok (.iconst 4, 1) := by decide +kernel
theorem d_Mo_rule_12 : decode m_Mo_rule.2.1 12 = .ok (.iload_n 3, 1) := by decide +kernel
theorem d_Mo_rule_13 : decode m_Mo_rule.2.1 13 = .ok (.imul, 1) := by decide +kernel
theorem d_Mo_rule_14 : decode m_Mo_rule.2.1 14 = .ok (.iadd, 1) := by decide +kernel
theorem d_Mo_rule_15 : decode m_Mo_rule.2.1 15 = .ok (.iload_n 2, 1) := by decide +kernel
theorem d_Mo_rule_16 : decode m_Mo_rule.2.1 16 = .ok (.iadd, 1) := by decide +kernel
theorem d_Mo_rule_17 : decode m_Mo_rule.2.1 17 = .ok (.istore 4, 2) := by decide +kernel
theorem d_Mo_rule_19 : decode m_Mo_rule.2.1 19 = .ok (.iconst 4, 1) := by decide +kernel
theorem d_Mo_rule_20 : decode m_Mo_rule.2.1 20 = .ok (.iload_n 1, 1) := by decide +kernel
theorem d_Mo_rule_21 : decode m_Mo_rule.2.1 21 = .ok (.imul, 1) := by decide +kernel
theorem d_Mo_rule_22 : decode m_Mo_rule.2.1 22 = .ok (.iload_n 2, 1) := by decide +kernel
theorem d_Mo_rule_23 : decode m_Mo_rule.2.1 23 = .ok (.iadd, 1) := by decide +kernel
theorem d_Mo_rule_24 : decode m_Mo_rule.2.1 24 = .ok (.istore 5, 2) := by decide +kernel
theorem d_Mo_rule_26 : decode m_Mo_rule.2.1 26 = .ok (.aload_n 0, 1) := by decide +kernel
theorem d_Mo_rule_27 : decode m_Mo_rule.2.1 27 = .ok (.getfield 34, 3) := by decide +kernel
theorem d_Mo_rule_30 : decode m_Mo_rule.2.1 30 = .ok (.iload 4, 2) := by decide +kernel
theorem d_Mo_rule_32 : decode m_Mo_rule.2.1 32 = .ok (.baload, 1) := by decide +kernel
theorem d_Mo_rule_33 : decode m_Mo_rule.2.1 33 = .ok (.ifCond .eq 46, 3) := by decide +kernel
theorem d_Mo_rule_36 : decode m_Mo_rule.2.1 36 = .ok (.aload_n 0, 1) := by decide +kernel
theorem d_Mo_rule_37 : decode m_Mo_rule.2.1 37 = .ok (.getfield 65, 3) := by decide +kernel
theorem d_Mo_rule_40 : decode m_Mo_rule.2.1 40 = .ok (.iload 4, 2) := by decide +kernel
theorem d_Mo_rule_42 : decode m_Mo_rule.2.1 42 = .ok (.baload, 1) := by decide +kernel
theorem d_Mo_rule_43 : decode m_Mo_rule.2.1 43 = .ok (.ifCond .ne 36, 3) := by decide +kernel
theorem d_Mo_rule_46 : decode m_Mo_rule.2.1 46 = .ok (.aload_n 0, 1) := by decide +kernel
theorem d_Mo_rule_47 : decode m_Mo_rule.2.1 47 = .ok (.getfield 65, 3) := by decide +kernel
theorem d_Mo_rule_50 : decode m_Mo_rule.2.1 50 = .ok (.iload 4, 2) := by decide +kernel
theorem d_Mo_rule_52 : decode m_Mo_rule.2.1 52 = .ok (.iconst 1, 1) := by decide +kernel
theorem d_Mo_rule_53 : decode m_Mo_rule.2.1 53 = .ok (.bastore, 1) := by decide +kernel
theorem d_Mo_rule_54 : decode m_Mo_rule.2.1 54 = .ok (.aload_n 0, 1) := by decide +kernel
theorem d_Mo_rule_55 : decode m_Mo_rule.2.1 55 = .ok (.iload_n 1, 1) := by decide +kernel
theorem d_Mo_rule_56 : decode m_Mo_rule.2.1 56 = .ok (.iload_n 3, 1) := by decide +kernel
theorem d_Mo_rule_57 : decode m_Mo_rule.2.1 57 = .ok (.iload_n 2, 1) := by decide +kernel
theorem d_Mo_rule_58 : decode m_Mo_rule.2.1 58 = .ok (.iconst 1, 1) := by decide +kernel
theorem d_Mo_rule_59 : decode m_Mo_rule.2.1 59 = .ok (.aload_n 0, 1) := by decide +kernel
theorem d_Mo_rule_60 : decode m_Mo_rule.2.1 60 = .ok (.getfield 38, 3) := by decide +kernel
theorem d_Mo_rule_63 : decode m_Mo_rule.2.1 63 = .ok (.iload 4, 2) := by decide +kernel
theorem d_Mo_rule_65 : decode m_Mo_rule.2.1 65 = .ok (.iaload, 1) := by decide +kernel
theorem d_Mo_rule_66 : decode m_Mo_rule.2.1 66 = .ok (.aload_n 0, 1) := by decide +kernel
theorem d_Mo_rule_67 : decode m_Mo_rule.2.1 67 = .ok (.getfield 41, 3) := by decide +kernel
theorem d_Mo_rule_70 : decode m_Mo_rule.2.1 70 = .ok (.iload 4, 2) := by decide +kernel
theorem d_Mo_rule_72 : decode m_Mo_rule.2.1 72 = .ok (.iaload, 1) := by decide +kernel
theorem d_Mo_rule_73 : decode m_Mo_rule.2.1 73 = .ok (.iconst 0, 1) := by decide +kernel
theorem d_Mo_rule_74 : decode m_Mo_rule.2.1 74 = .ok (.invokevirtual 189, 3) := by decide +kernel
theorem d_Mo_rule_77 : decode m_Mo_rule.2.1 77 = .ok (.iconst 1, 1) := by decide +kernel
theorem d_Mo_rule_78 : decode m_Mo_rule.2.1 78 = .ok (.ireturn, 1) := by decide +kernel
theorem d_Mo_rule_79 : decode m_Mo_rule.2.1 79 = .ok (.aload_n 0, 1) := by decide +kernel
theorem d_Mo_rule_80 : decode m_Mo_rule.2.1 80 = .ok (.getfield 68, 3) := by decide +kernel
theorem d_Mo_rule_83 : decode m_Mo_rule.2.1 83 = .ok (.iload 4, 2) := by decide +kernel
theorem d_Mo_rule_85 : decode m_Mo_rule.2.1 85 = .ok (.baload, 1) := by decide +kernel
theorem d_Mo_rule_86 : decode m_Mo_rule.2.1 86 = .ok (.ifCond .ne 17, 3) := by decide +kernel
theorem d_Mo_rule_89 : decode m_Mo_rule.2.1 89 = .ok (.aload_n 0, 1) := by decide +kernel
theorem d_Mo_rule_90 : decode m_Mo_rule.2.1 90 = .ok (.iload_n 1, 1) := by decide +kernel
theorem d_Mo_rule_91 : decode m_Mo_rule.2.1 91 = .ok (.iload_n 3, 1) := by decide +kernel
theorem d_Mo_rule_92 : decode m_Mo_rule.2.1 92 = .ok (.iload_n 2, 1) := by decide +kernel
theorem d_Mo_rule_93 : decode m_Mo_rule.2.1 93 = .ok (.iload 4, 2) := by decide +kernel
theorem d_Mo_rule_95 : decode m_Mo_rule.2.1 95 = .ok (.invokevirtual 202, 3) := by decide +kernel
theorem d_Mo_rule_98 : decode m_Mo_rule.2.1 98 = .ok (.ifCond .eq 5, 3) := by decide +kernel
theorem d_Mo_rule_101 : decode m_Mo_rule.2.1 101 = .ok (.iconst 1, 1) := by decide +kernel
theorem d_Mo_rule_102 : decode m_Mo_rule.2.1 102 = .ok (.ireturn, 1) := by decide +kernel
theorem d_Mo_rule_103 : decode m_Mo_rule.2.1 103 = .ok (.aload_n 0, 1) := by decide +kernel
theorem d_Mo_rule_104 : decode m_Mo_rule.2.1 104 = .ok (.getfield 77, 3) := by decide +kernel
theorem d_Mo_rule_107 : decode m_Mo_rule.2.1 107 = .ok (.iload 5, 2) := by decide +kernel
theorem d_Mo_rule_109 : decode m_Mo_rule.2.1 109 = .ok (.iaload, 1) := by decide +kernel
theorem d_Mo_rule_110 : decode m_Mo_rule.2.1 110 = .ok (.ifCond .ge 16, 3) := by decide +kernel
theorem d_Mo_rule_113 : decode m_Mo_rule.2.1 113 = .ok (.aload_n 0, 1) := by decide +kernel
theorem d_Mo_rule_114 : decode m_Mo_rule.2.1 114 = .ok (.iload 4, 2) := by decide +kernel
theorem d_Mo_rule_116 : decode m_Mo_rule.2.1 116 = .ok (.iload 5, 2) := by decide +kernel
theorem d_Mo_rule_118 : decode m_Mo_rule.2.1 118 = .ok (.invokevirtual 206, 3) := by decide +kernel
theorem d_Mo_rule_121 : decode m_Mo_rule.2.1 121 = .ok (.ifCond .eq 5, 3) := by decide +kernel
theorem d_Mo_rule_124 : decode m_Mo_rule.2.1 124 = .ok (.iconst 1, 1) := by decide +kernel
theorem d_Mo_rule_125 : decode m_Mo_rule.2.1 125 = .ok (.ireturn, 1) := by decide +kernel
theorem d_Mo_rule_126 : decode m_Mo_rule.2.1 126 = .ok (.aload_n 0, 1) := by decide +kernel
theorem d_Mo_rule_127 : decode m_Mo_rule.2.1 127 = .ok (.getfield 77, 3) := by decide +kernel
theorem d_Mo_rule_130 : decode m_Mo_rule.2.1 130 = .ok (.iload 5, 2) := by decide +kernel
theorem d_Mo_rule_132 : decode m_Mo_rule.2.1 132 = .ok (.iaload, 1) := by decide +kernel
theorem d_Mo_rule_133 : decode m_Mo_rule.2.1 133 = .ok (.ifCond .lt 31, 3) := by decide +kernel
theorem d_Mo_rule_136 : decode m_Mo_rule.2.1 136 = .ok (.aload_n 0, 1) := by decide +kernel
theorem d_Mo_rule_137 : decode m_Mo_rule.2.1 137 = .ok (.getfield 80, 3) := by decide +kernel
theorem d_Mo_rule_140 : decode m_Mo_rule.2.1 140 = .ok (.iload 5, 2) := by decide +kernel
theorem d_Mo_rule_142 : decode m_Mo_rule.2.1 142 = .ok (.baload, 1) := by decide +kernel
theorem d_Mo_rule_143 : decode m_Mo_rule.2.1 143 = .ok (.ifCond .ne 21, 3) := by decide +kernel
theorem d_Mo_rule_146 : decode m_Mo_rule.2.1 146 = .ok (.aload_n 0, 1) := by decide +kernel
theorem d_Mo_rule_147 : decode m_Mo_rule.2.1 147 = .ok (.getfield 80, 3) := by decide +kernel
theorem d_Mo_rule_150 : decode m_Mo_rule.2.1 150 = .ok (.iload 5, 2) := by decide +kernel
theorem d_Mo_rule_152 : decode m_Mo_rule.2.1 152 = .ok (.iconst 1, 1) := by decide +kernel
theorem d_Mo_rule_153 : decode m_Mo_rule.2.1 153 = .ok (.bastore, 1) := by decide +kernel
theorem d_Mo_rule_154 : decode m_Mo_rule.2.1 154 = .ok (.aload_n 0, 1) := by decide +kernel
theorem d_Mo_rule_155 : decode m_Mo_rule.2.1 155 = .ok (.getfield 83, 3) := by decide +kernel
theorem d_Mo_rule_158 : decode m_Mo_rule.2.1 158 = .ok (.iload 5, 2) := by decide +kernel
theorem d_Mo_rule_160 : decode m_Mo_rule.2.1 160 = .ok (.iconst 1, 1) := by decide +kernel
theorem d_Mo_rule_161 : decode m_Mo_rule.2.1 161 = .ok (.iastore, 1) := by decide +kernel
theorem d_Mo_rule_162 : decode m_Mo_rule.2.1 162 = .ok (.iconst 1, 1) := by decide +kernel
theorem d_Mo_rule_163 : decode m_Mo_rule.2.1 163 = .ok (.ireturn, 1) := by decide +kernel
theorem d_Mo_rule_164 : decode m_Mo_rule.2.1 164 = .ok (.aload_n 0, 1) := by decide +kernel
theorem d_Mo_rule_165 : decode m_Mo_rule.2.1 165 = .ok (.getfield 80, 3) := by decide +kernel
theorem d_Mo_rule_168 : decode m_Mo_rule.2.1 168 = .ok (.iload 5, 2) := by decide +kernel
theorem d_Mo_rule_170 : decode m_Mo_rule.2.1 170 = .ok (.baload, 1) := by decide +kernel
theorem d_Mo_rule_171 : decode m_Mo_rule.2.1 171 = .ok (.ifCond .eq 31, 3) := by decide +kernel
theorem d_Mo_rule_174 : decode m_Mo_rule.2.1 174 = .ok (.aload_n 0, 1) := by decide +kernel
theorem d_Mo_rule_175 : decode m_Mo_rule.2.1 175 = .ok (.getfield 98, 3) := by decide +kernel
theorem d_Mo_rule_178 : decode m_Mo_rule.2.1 178 = .ok (.iload 5, 2) := by decide +kernel
theorem d_Mo_rule_180 : decode m_Mo_rule.2.1 180 = .ok (.baload, 1) := by decide +kernel
theorem d_Mo_rule_181 : decode m_Mo_rule.2.1 181 = .ok (.ifCond .ne 21, 3) := by decide +kernel
theorem d_Mo_rule_184 : decode m_Mo_rule.2.1 184 = .ok (.aload_n 0, 1) := by decide +kernel
theorem d_Mo_rule_185 : decode m_Mo_rule.2.1 185 = .ok (.iload_n 1, 1) := by decide +kernel
theorem d_Mo_rule_186 : decode m_Mo_rule.2.1 186 = .ok (.iload_n 3, 1) := by decide +kernel
theorem d_Mo_rule_187 : decode m_Mo_rule.2.1 187 = .ok (.iload_n 2, 1) := by decide +kernel
theorem d_Mo_rule_188 : decode m_Mo_rule.2.1 188 = .ok (.iload 4, 2) := by decide +kernel
theorem d_Mo_rule_190 : decode m_Mo_rule.2.1 190 = .ok (.iload 5, 2) := by decide +kernel
theorem d_Mo_rule_192 : decode m_Mo_rule.2.1 192 = .ok (.invokevirtual 209, 3) := by decide +kernel
theorem d_Mo_rule_195 : decode m_Mo_rule.2.1 195 = .ok (.ifCond .eq 7, 3) := by decide +kernel
theorem d_Mo_rule_198 : decode m_Mo_rule.2.1 198 = .ok (.iconst 1, 1) := by decide +kernel
theorem d_Mo_rule_199 : decode m_Mo_rule.2.1 199 = .ok (.goto 4, 3) := by decide +kernel
theorem d_Mo_rule_202 : decode m_Mo_rule.2.1 202 = .ok (.iconst 0, 1) := by decide +kernel
theorem d_Mo_rule_203 : decode m_Mo_rule.2.1 203 = .ok (.ireturn, 1) := by decide +kernel
theorem d_Mo_post_0 : decode m_Mo_post.2.1 0 = .ok (.aload_n 0, 1) := by decide +kernel
theorem d_Mo_post_1 : decode m_Mo_post.2.1 1 = .ok (.getfield 7, 3) := by decide +kernel
theorem d_Mo_post_4 : decode m_Mo_post.2.1 4 = .ok (.aload_n 0, 1) := by decide +kernel
theorem d_Mo_post_5 : decode m_Mo_post.2.1 5 = .ok (.getfield 147, 3) := by decide +kernel
theorem d_Mo_post_8 : decode m_Mo_post.2.1 8 = .ok (.iload_n 1, 1) := by decide +kernel
theorem d_Mo_post_9 : decode m_Mo_post.2.1 9 = .ok (.iload_n 2, 1) := by decide +kernel
theorem d_Mo_post_10 : decode m_Mo_post.2.1 10 = .ok (.iconst 2, 1) := by decide +kernel
theorem d_Mo_post_11 : decode m_Mo_post.2.1 11 = .ok (.ishl, 1) := by decide +kernel
theorem d_Mo_post_12 : decode m_Mo_post.2.1 12 = .ok (.ior, 1) := by decide +kernel
theorem d_Mo_post_13 : decode m_Mo_post.2.1 13 = .ok (.iload_n 3, 1) := by decide +kernel
theorem d_Mo_post_14 : decode m_Mo_post.2.1 14 = .ok (.iconst 4, 1) := by decide +kernel
theorem d_Mo_post_15 : decode m_Mo_post.2.1 15 = .ok (.ishl, 1) := by decide +kernel
theorem d_Mo_post_16 : decode m_Mo_post.2.1 16 = .ok (.ior, 1) := by decide +kernel
theorem d_Mo_post_17 : decode m_Mo_post.2.1 17 = .ok (.iload 4, 2) := by decide +kernel
theorem d_Mo_post_19 : decode m_Mo_post.2.1 19 = .ok (.bipush 6, 2) := by decide +kernel
theorem d_Mo_post_21 : decode m_Mo_post.2.1 21 = .ok (.ishl, 1) := by decide +kernel
theorem d_Mo_post_22 : decode m_Mo_post.2.1 22 = .ok (.ior, 1) := by decide +kernel
theorem d_Mo_post_23 : decode m_Mo_post.2.1 23 = .ok (.iload 7, 2) := by decide +kernel
theorem d_Mo_post_25 : decode m_Mo_post.2.1 25 = .ok (.bipush 9, 2) := by decide +kernel
theorem d_Mo_post_27 : decode m_Mo_post.2.1 27 = .ok (.ishl, 1) := by decide +kernel
theorem d_Mo_post_28 : decode m_Mo_post.2.1 28 = .ok (.ior, 1) := by decide +kernel
theorem d_Mo_post_29 : decode m_Mo_post.2.1 29 = .ok (.iastore, 1) := by decide +kernel
theorem d_Mo_post_30 : decode m_Mo_post.2.1 30 = .ok (.aload_n 0, 1) := by decide +kernel
theorem d_Mo_post_31 : decode m_Mo_post.2.1 31 = .ok (.getfield 13, 3) := by decide +kernel
theorem d_Mo_post_34 : decode m_Mo_post.2.1 34 = .ok (.aload_n 0, 1) := by decide +kernel
theorem d_Mo_post_35 : decode m_Mo_post.2.1 35 = .ok (.getfield 147, 3) := by decide +kernel
theorem d_Mo_post_38 : decode m_Mo_post.2.1 38 = .ok (.iload 5, 2) := by decide +kernel
theorem d_Mo_post_40 : decode m_Mo_post.2.1 40 = .ok (.iastore, 1) := by decide +kernel
theorem d_Mo_post_41 : decode m_Mo_post.2.1 41 = .ok (.aload_n 0, 1) := by decide +kernel
theorem d_Mo_post_42 : decode m_Mo_post.2.1 42 = .ok (.getfield 16, 3) := by decide +kernel
theorem d_Mo_post_45 : decode m_Mo_post.2.1 45 = .ok (.aload_n 0, 1) := by decide +kernel
theorem d_Mo_post_46 : decode m_Mo_post.2.1 46 = .ok (.getfield 147, 3) := by decide +kernel
theorem d_Mo_post_49 : decode m_Mo_post.2.1 49 = .ok (.iload 6, 2) := by decide +kernel
theorem d_Mo_post_51 : decode m_Mo_post.2.1 51 = .ok (.iastore, 1) := by decide +kernel
theorem d_Mo_post_52 : decode m_Mo_post.2.1 52 = .ok (.aload_n 0, 1) := by decide +kernel
theorem d_Mo_post_53 : decode m_Mo_post.2.1 53 = .ok (.dup, 1) := by decide +kernel
theorem d_Mo_post_54 : decode m_Mo_post.2.1 54 = .ok (.getfield 147, 3) := by decide +kernel
theorem d_Mo_post_57 : decode m_Mo_post.2.1 57 = .ok (.iconst 1, 1) := by decide +kernel
theorem d_Mo_post_58 : decode m_Mo_post.2.1 58 = .ok (.iadd, 1) := by decide +kernel
theorem d_Mo_post_59 : decode m_Mo_post.2.1 59 = .ok (.putfield 147, 3) := by decide +kernel
theorem d_Mo_post_62 : decode m_Mo_post.2.1 62 = .ok (.return_, 1) := by decide +kernel
theorem d_Mo_ready_0 : decode m_Mo_ready.2.1 0 = .ok (.iconst 0, 1) := by decide +kernel
theorem d_Mo_ready_1 : decode m_Mo_ready.2.1 1 = .ok (.istore 5, 2) := by decide +kernel
theorem d_Mo_ready_3 : decode m_Mo_ready.2.1 3 = .ok (.iload 5, 2) := by decide +kernel
theorem d_Mo_ready_5 : decode m_Mo_ready.2.1 5 = .ok (.iconst 4, 1) := by decide +kernel
theorem d_Mo_ready_6 : decode m_Mo_ready.2.1 6 = .ok (.if_icmp .ge 83, 3) := by decide +kernel
theorem d_Mo_ready_9 : decode m_Mo_ready.2.1 9 = .ok (.aload_n 0, 1) := by decide +kernel
theorem d_Mo_ready_10 : decode m_Mo_ready.2.1 10 = .ok (.getfield 47, 3) := by decide +kernel
theorem d_Mo_ready_13 : decode m_Mo_ready.2.1 13 = .ok (.iconst 4, 1) := by decide +kernel
theorem d_Mo_ready_14 : decode m_Mo_ready.2.1 14 = .ok (.iload 4, 2) := by decide +kernel
theorem d_Mo_ready_16 : decode m_Mo_ready.2.1 16 = .ok (.imul, 1) := by decide +kernel
theorem d_Mo_ready_17 : decode m_Mo_ready.2.1 17 = .ok (.iload 5, 2) := by decide +kernel
theorem d_Mo_ready_19 : decode m_Mo_ready.2.1 19 = .ok (.iadd, 1) := by decide +kernel
theorem d_Mo_ready_20 : decode m_Mo_ready.2.1 20 = .ok (.iaload, 1) := by decide +kernel
theorem d_Mo_ready_21 : decode m_Mo_ready.2.1 21 = .ok (.istore 6, 2) := by decide +kernel
theorem d_Mo_ready_23 : decode m_Mo_ready.2.1 23 = .ok (.aload_n 0, 1) := by decide +kernel
theorem d_Mo_ready_24 : decode m_Mo_ready.2.1 24 = .ok (.getfield 44, 3) := by decide +kernel
theorem d_Mo_ready_27 : decode m_Mo_ready.2.1 27 = .ok (.iconst 4, 1) := by decide +kernel
theorem d_Mo_ready_28 : decode m_Mo_ready.2.1 28 = .ok (.iload 4, 2) := by decide +kernel
theorem d_Mo_ready_30 : decode m_Mo_ready.2.1 30 = .ok (.imul, 1) := by decide +kernel
theorem d_Mo_ready_31 : decode m_Mo_ready.2.1 31 = .ok (.iload 5, 2) := by decide +kernel
theorem d_Mo_ready_33 : decode m_Mo_ready.2.1 33 = .ok (.iadd, 1) := by decide +kernel
theorem d_Mo_ready_34 : decode m_Mo_ready.2.1 34 = .ok (.baload, 1) := by decide +kernel
theorem d_Mo_ready_35 : decode m_Mo_ready.2.1 35 = .ok (.ifCond .eq 48, 3) := by decide +kernel
theorem d_Mo_ready_38 : decode m_Mo_ready.2.1 38 = .ok (.aload_n 0, 1) := by decide +kernel
theorem d_Mo_ready_39 : decode m_Mo_ready.2.1 39 = .ok (.iload 4, 2) := by decide +kernel
theorem d_Mo_ready_41 : decode m_Mo_ready.2.1 41 = .ok (.iload 6, 2) := by decide +kernel
theorem d_Mo_ready_43 : decode m_Mo_ready.2.1 43 = .ok (.invokevirtual 220, 3) := by decide +kernel
theorem d_Mo_ready_46 : decode m_Mo_ready.2.1 46 = .ok (.iconst 3, 1) := by decide +kernel
theorem d_Mo_ready_47 : decode m_Mo_ready.2.1 47 = .ok (.if_icmp .lt 36, 3) := by decide +kernel
theorem d_Mo_ready_50 : decode m_Mo_ready.2.1 50 = .ok (.aload_n 0, 1) := by decide +kernel
theorem d_Mo_ready_51 : decode m_Mo_ready.2.1 51 = .ok (.iload 4, 2) := by decide +kernel
theorem d_Mo_ready_53 : decode m_Mo_ready.2.1 53 = .ok (.iload 6, 2) := by decide +kernel
theorem d_Mo_ready_55 : decode m_Mo_ready.2.1 55 = .ok (.invokevirtual 223, 3) := by decide +kernel
theorem d_Mo_ready_58 : decode m_Mo_ready.2.1 58 = .ok (.ifCond .eq 25, 3) := by decide +kernel
theorem d_Mo_ready_61 : decode m_Mo_ready.2.1 61 = .ok (.aload_n 0, 1) := by decide +kernel
theorem d_Mo_ready_62 : decode m_Mo_ready.2.1 62 = .ok (.getfield 68, 3) := by decide +kernel
theorem d_Mo_ready_65 : decode m_Mo_ready.2.1 65 = .ok (.iload 4, 2) := by decide +kernel
theorem d_Mo_ready_67 : decode m_Mo_ready.2.1 67 = .ok (.iconst 1, 1) := by decide +kernel
theorem d_Mo_ready_68 : decode m_Mo_ready.2.1 68 = .ok (.bastore, 1) := by decide +kernel
theorem d_Mo_ready_69 : decode m_Mo_ready.2.1 69 = .ok (.aload_n 0, 1) := by decide +kernel
theorem d_Mo_ready_70 : decode m_Mo_ready.2.1 70 = .ok (.iload_n 1, 1) := by decide +kernel
theorem d_Mo_ready_71 : decode m_Mo_ready.2.1 71 = .ok (.iload_n 2, 1) := by decide +kernel
theorem d_Mo_ready_72 : decode m_Mo_ready.2.1 72 = .ok (.iload_n 3, 1) := by decide +kernel
theorem d_Mo_ready_73 : decode m_Mo_ready.2.1 73 = .ok (.iconst 2, 1) := by decide +kernel
theorem d_Mo_ready_74 : decode m_Mo_ready.2.1 74 = .ok (.iload 6, 2) := by decide +kernel
theorem d_Mo_ready_76 : decode m_Mo_ready.2.1 76 = .ok (.iconst 0, 1) := by decide +kernel
theorem d_Mo_ready_77 : decode m_Mo_ready.2.1 77 = .ok (.iconst 0, 1) := by decide +kernel
theorem d_Mo_ready_78 : decode m_Mo_ready.2.1 78 = .ok (.invokevirtual 189, 3) := by decide +kernel
theorem d_Mo_ready_81 : decode m_Mo_ready.2.1 81 = .ok (.iconst 1, 1) := by decide +kernel
theorem d_Mo_ready_82 : decode m_Mo_ready.2.1 82 = .ok (.ireturn, 1) := by decide +kernel
theorem d_Mo_ready_83 : decode m_Mo_ready.2.1 83 = .ok (.iinc 5 1, 3) := by decide +kernel
theorem d_Mo_ready_86 : decode m_Mo_ready.2.1 86 = .ok (.goto (-83), 3) := by decide +kernel
theorem d_Mo_ready_89 : decode m_Mo_ready.2.1 89 = .ok (.iconst 0, 1) := by decide +kernel
theorem d_Mo_ready_90 : decode m_Mo_ready.2.1 90 = .ok (.istore 5, 2) := by decide +kernel
theorem d_Mo_ready_92 : decode m_Mo_ready.2.1 92 = .ok (.iload 5, 2) := by decide +kernel
theorem d_Mo_ready_94 : decode m_Mo_ready.2.1 94 = .ok (.iconst 4, 1) := by decide +kernel
theorem d_Mo_ready_95 : decode m_Mo_ready.2.1 95 = .ok (.if_icmp .ge 72, 3) := by decide +kernel
theorem d_Mo_ready_98 : decode m_Mo_ready.2.1 98 = .ok (.aload_n 0, 1) := by decide +kernel
theorem d_Mo_ready_99 : decode m_Mo_ready.2.1 99 = .ok (.getfield 56, 3) := by decide +kernel
theorem d_Mo_ready_102 : decode m_Mo_ready.2.1 102 = .ok (.iconst 4, 1) := by decide +kernel
theorem d_Mo_ready_103 : decode m_Mo_ready.2.1 103 = .ok (.iload 4, 2) := by decide +kernel
theorem d_Mo_ready_105 : decode m_Mo_ready.2.1 105 = .ok (.imul, 1) := by decide +kernel
theorem d_Mo_ready_106 : decode m_Mo_ready.2.1 106 = .ok (.iload 5, 2) := by decide +kernel
theorem d_Mo_ready_108 : decode m_Mo_ready.2.1 108 = .ok (.iadd, 1) := by decide +kernel
theorem d_Mo_ready_109 : decode m_Mo_ready.2.1 109 = .ok (.iaload, 1) := by decide +kernel
theorem d_Mo_ready_110 : decode m_Mo_ready.2.1 110 = .ok (.istore 6, 2) := by decide +kernel
theorem d_Mo_ready_112 : decode m_Mo_ready.2.1 112 = .ok (.aload_n 0, 1) := by decide +kernel
theorem d_Mo_ready_113 : decode m_Mo_ready.2.1 113 = .ok (.getfield 53, 3) := by decide +kernel
theorem d_Mo_ready_116 : decode m_Mo_ready.2.1 116 = .ok (.iconst 4, 1) := by decide +kernel
theorem d_Mo_ready_117 : decode m_Mo_ready.2.1 117 = .ok (.iload 4, 2) := by decide +kernel
theorem d_Mo_ready_119 : decode m_Mo_ready.2.1 119 = .ok (.imul, 1) := by decide +kernel
theorem d_Mo_ready_120 : decode m_Mo_ready.2.1 120 = .ok (.iload 5, 2) := by decide +kernel
theorem d_Mo_ready_122 : decode m_Mo_ready.2.1 122 = .ok (.iadd, 1) := by decide +kernel
theorem d_Mo_ready_123 : decode m_Mo_ready.2.1 123 = .ok (.baload, 1) := by decide +kernel
theorem d_Mo_ready_124 : decode m_Mo_ready.2.1 124 = .ok (.ifCond .eq 37, 3) := by decide +kernel
theorem d_Mo_ready_127 : decode m_Mo_ready.2.1 127 = .ok (.aload_n 0, 1) := by decide +kernel
theorem d_Mo_ready_128 : decode m_Mo_ready.2.1 128 = .ok (.iload 4, 2) := by decide +kernel
theorem d_Mo_ready_130 : decode m_Mo_ready.2.1 130 = .ok (.iload 6, 2) := by decide +kernel
theorem d_Mo_ready_132 : decode m_Mo_ready.2.1 132 = .ok (.invokevirtual 226, 3) := by decide +kernel
theorem d_Mo_ready_135 : decode m_Mo_ready.2.1 135 = .ok (.iconst 2, 1) := by decide +kernel
theorem d_Mo_ready_136 : decode m_Mo_ready.2.1 136 = .ok (.if_icmp .lt 25, 3) := by decide +kernel
theorem d_Mo_ready_139 : decode m_Mo_ready.2.1 139 = .ok (.aload_n 0, 1) := by decide +kernel
theorem d_Mo_ready_140 : decode m_Mo_ready.2.1 140 = .ok (.getfield 68, 3) := by decide +kernel
theorem d_Mo_ready_143 : decode m_Mo_ready.2.1 143 = .ok (.iload 4, 2) := by decide +kernel
theorem d_Mo_ready_145 : decode m_Mo_ready.2.1 145 = .ok (.iconst 1, 1) := by decide +kernel
theorem d_Mo_ready_146 : decode m_Mo_ready.2.1 146 = .ok (.bastore, 1) := by decide +kernel
theorem d_Mo_ready_147 : decode m_Mo_ready.2.1 147 = .ok (.aload_n 0, 1) := by decide +kernel
theorem d_Mo_ready_148 : decode m_Mo_ready.2.1 148 = .ok (.iload_n 1, 1) := by decide +kernel
theorem d_Mo_ready_149 : decode m_Mo_ready.2.1 149 = .ok (.iload_n 2, 1) := by decide +kernel
theorem d_Mo_ready_150 : decode m_Mo_ready.2.1 150 = .ok (.iload_n 3, 1) := by decide +kernel
theorem d_Mo_ready_151 : decode m_Mo_ready.2.1 151 = .ok (.iconst 2, 1) := by decide +kernel
theorem d_Mo_ready_152 : decode m_Mo_ready.2.1 152 = .ok (.iload 6, 2) := by decide +kernel
theorem d_Mo_ready_154 : decode m_Mo_ready.2.1 154 = .ok (.iconst 0, 1) := by decide +kernel
theorem d_Mo_ready_155 : decode m_Mo_ready.2.1 155 = .ok (.iconst 0, 1) := by decide +kernel
theorem d_Mo_ready_156 : decode m_Mo_ready.2.1 156 = .ok (.invokevirtual 189, 3) := by decide +kernel
theorem d_Mo_ready_159 : decode m_Mo_ready.2.1 159 = .ok (.iconst 1, 1) := by decide +kernel
theorem d_Mo_ready_160 : decode m_Mo_ready.2.1 160 = .ok (.ireturn, 1) := by decide +kernel
theorem d_Mo_ready_161 : decode m_Mo_ready.2.1 161 = .ok (.iinc 5 1, 3) := by decide +kernel
theorem d_Mo_ready_164 : decode m_Mo_ready.2.1 164 = .ok (.goto (-72), 3) := by decide +kernel
theorem d_Mo_ready_167 : decode m_Mo_ready.2.1 167 = .ok (.iconst 0, 1) := by decide +kernel
theorem d_Mo_ready_168 : decode m_Mo_ready.2.1 168 = .ok (.ireturn, 1) := by decide +kernel
theorem d_Mo_echoes_0 : decode m_Mo_echoes.2.1 0 = .ok (.iconst 0, 1) := by decide +kernel
theorem d_Mo_echoes_1 : decode m_Mo_echoes.2.1 1 = .ok (.istore_n 3, 1) := by decide +kernel
theorem d_Mo_echoes_2 : decode m_Mo_echoes.2.1 2 = .ok (.iconst 0, 1) := by decide +kernel
theorem d_Mo_echoes_3 : decode m_Mo_echoes.2.1 3 = .ok (.istore 4, 2) := by decide +kernel
theorem d_Mo_echoes_5 : decode m_Mo_echoes.2.1 5 = .ok (.iload 4, 2) := by decide +kernel
theorem d_Mo_echoes_7 : decode m_Mo_echoes.2.1 7 = .ok (.iconst 4, 1) := by decide +kernel
theorem d_Mo_echoes_8 : decode m_Mo_echoes.2.1 8 = .ok (.if_icmp .ge 46, 3) := by decide +kernel
theorem d_Mo_echoes_11 : decode m_Mo_echoes.2.1 11 = .ok (.aload_n 0, 1) := by decide +kernel
theorem d_Mo_echoes_12 : decode m_Mo_echoes.2.1 12 = .ok (.getfield 44, 3) := by decide +kernel
theorem d_Mo_echoes_15 : decode m_Mo_echoes.2.1 15 = .ok (.iconst 4, 1) := by decide +kernel
theorem d_Mo_echoes_16 : decode m_Mo_echoes.2.1 16 = .ok (.iload_n 1, 1) := by decide +kernel
theorem d_Mo_echoes_17 : decode m_Mo_echoes.2.1 17 = .ok (.imul, 1) := by decide +kernel
theorem d_Mo_echoes_18 : decode m_Mo_echoes.2.1 18 = .ok (.iload 4, 2) := by decide +kernel
theorem d_Mo_echoes_20 : decode m_Mo_echoes.2.1 20 = .ok (.iadd, 1) := by decide +kernel
theorem d_Mo_echoes_21 : decode m_Mo_echoes.2.1 21 = .ok (.baload, 1) := by decide +kernel
theorem d_Mo_echoes_22 : decode m_Mo_echoes.2.1 22 = .ok (.ifCond .eq 24, 3) := by decide +kernel
theorem d_Mo_echoes_25 : decode m_Mo_echoes.2.1 25 = .ok (.aload_n 0, 1) := by decide +kernel
theorem d_Mo_echoes_26 : decode m_Mo_echoes.2.1 26 = .ok (.getfield 47, 3) := by decide +kernel
theorem d_Mo_echoes_29 : decode m_Mo_echoes.2.1 29 = .ok (.iconst 4, 1) := by decide +kernel
theorem d_Mo_echoes_30 : decode m_Mo_echoes.2.1 30 = .ok (.iload_n 1, 1) := by decide +kernel
theorem d_Mo_echoes_31 : decode m_Mo_echoes.2.1 31 = .ok (.imul, 1) := by decide +kernel
theorem d_Mo_echoes_32 : decode m_Mo_echoes.2.1 32 = .ok (.iload 4, 2) := by decide +kernel
theorem d_Mo_echoes_34 : decode m_Mo_echoes.2.1 34 = .ok (.iadd, 1) := by decide +kernel
theorem d_Mo_echoes_35 : decode m_Mo_echoes.2.1 35 = .ok (.iaload, 1) := by decide +kernel
theorem d_Mo_echoes_36 : decode m_Mo_echoes.2.1 36 = .ok (.iload_n 2, 1) := by decide +kernel
theorem d_Mo_echoes_37 : decode m_Mo_echoes.2.1 37 = .ok (.if_icmp .ne 9, 3) := by decide +kernel
theorem d_Mo_echoes_40 : decode m_Mo_echoes.2.1 40 = .ok (.iload_n 3, 1) := by decide +kernel
theorem d_Mo_echoes_41 : decode m_Mo_echoes.2.1 41 = .ok (.iconst 1, 1) := by decide +kernel
theorem d_Mo_echoes_42 : decode m_Mo_echoes.2.1 42 = .ok (.iadd, 1) := by decide +kernel
theorem d_Mo_echoes_43 : decode m_Mo_echoes.2.1 43 = .ok (.goto 4, 3) := by decide +kernel
theorem d_Mo_echoes_46 : decode m_Mo_echoes.2.1 46 = .ok (.iload_n 3, 1) := by decide +kernel
theorem d_Mo_echoes_47 : decode m_Mo_echoes.2.1 47 = .ok (.istore_n 3, 1) := by decide +kernel
theorem d_Mo_echoes_48 : decode m_Mo_echoes.2.1 48 = .ok (.iinc 4 1, 3) := by decide +kernel
theorem d_Mo_echoes_51 : decode m_Mo_echoes.2.1 51 = .ok (.goto (-46), 3) := by decide +kernel
theorem d_Mo_echoes_54 : decode m_Mo_echoes.2.1 54 = .ok (.iload_n 3, 1) := by decide +kernel
theorem d_Mo_echoes_55 : decode m_Mo_echoes.2.1 55 = .ok (.ireturn, 1) := by decide +kernel
theorem d_Mo_makes_0 : decode m_Mo_makes.2.1 0 = .ok (.iconst (-1), 1) := by decide +kernel
theorem d_Mo_makes_1 : decode m_Mo_makes.2.1 1 = .ok (.istore_n 3, 1) := by decide +kernel
theorem d_Mo_makes_2 : decode m_Mo_makes.2.1 2 = .ok (.iconst (-1), 1) := by decide +kernel
theorem d_Mo_makes_3 : decode m_Mo_makes.2.1 3 = .ok (.istore 4, 2) := by decide +kernel
theorem d_Mo_makes_5 : decode m_Mo_makes.2.1 5 = .ok (.iconst 3, 1) := by decide +kernel
theorem d_Mo_makes_6 : decode m_Mo_makes.2.1 6 = .ok (.istore 5, 2) := by decide +kernel
theorem d_Mo_makes_8 : decode m_Mo_makes.2.1 8 = .ok (.iload 5, 2) := by decide +kernel
theorem d_Mo_makes_10 : decode m_Mo_makes.2.1 10 = .ok (.ifCond .lt 44, 3) := by decide +kernel
theorem d_Mo_makes_13 : decode m_Mo_makes.2.1 13 = .ok (.aload_n 0, 1) := by decide +kernel
theorem d_Mo_makes_14 : decode m_Mo_makes.2.1 14 = .ok (.getfield 44, 3) := by decide +kernel
theorem d_Mo_makes_17 : decode m_Mo_makes.2.1 17 = .ok (.iconst 4, 1) := by decide +kernel
theorem d_Mo_makes_18 : decode m_Mo_makes.2.1 18 = .ok (.iload_n 1, 1) := by decide +kernel
theorem d_Mo_makes_19 : decode m_Mo_makes.2.1 19 = .ok (.imul, 1) := by decide +kernel
theorem d_Mo_makes_20 : decode m_Mo_makes.2.1 20 = .ok (.iload 5, 2) := by decide +kernel
theorem d_Mo_makes_22 : decode m_Mo_makes.2.1 22 = .ok (.iadd, 1) := by decide +kernel
theorem d_Mo_makes_23 : decode m_Mo_makes.2.1 23 = .ok (.baload, 1) := by decide +kernel
theorem d_Mo_makes_24 : decode m_Mo_makes.2.1 24 = .ok (.ifCond .eq 24, 3) := by decide +kernel
theorem d_Mo_makes_27 : decode m_Mo_makes.2.1 27 = .ok (.aload_n 0, 1) := by decide +kernel
theorem d_Mo_makes_28 : decode m_Mo_makes.2.1 28 = .ok (.getfield 47, 3) := by decide +kernel
theorem d_Mo_makes_31 : decode m_Mo_makes.2.1 31 = .ok (.iconst 4, 1) := by decide +kernel
theorem d_Mo_makes_32 : decode m_Mo_makes.2.1 32 = .ok (.iload_n 1, 1) := by decide +kernel
theorem d_Mo_makes_33 : decode m_Mo_makes.2.1 33 = .ok (.imul, 1) := by decide +kernel
theorem d_Mo_makes_34 : decode m_Mo_makes.2.1 34 = .ok (.iload 5, 2) := by decide +kernel
theorem d_Mo_makes_36 : decode m_Mo_makes.2.1 36 = .ok (.iadd, 1) := by decide +kernel
theorem d_Mo_makes_37 : decode m_Mo_makes.2.1 37 = .ok (.iaload, 1) := by decide +kernel
theorem d_Mo_makes_38 : decode m_Mo_makes.2.1 38 = .ok (.iload_n 2, 1) := by decide +kernel
theorem d_Mo_makes_39 : decode m_Mo_makes.2.1 39 = .ok (.if_icmp .ne 9, 3) := by decide +kernel
theorem d_Mo_makes_42 : decode m_Mo_makes.2.1 42 = .ok (.iload_n 3, 1) := by decide +kernel
theorem d_Mo_makes_43 : decode m_Mo_makes.2.1 43 = .ok (.istore 4, 2) := by decide +kernel
theorem d_Mo_makes_45 : decode m_Mo_makes.2.1 45 = .ok (.iload 5, 2) := by decide +kernel
theorem d_Mo_makes_47 : decode m_Mo_makes.2.1 47 = .ok (.istore_n 3, 1) := by decide +kernel
theorem d_Mo_makes_48 : decode m_Mo_makes.2.1 48 = .ok (.iinc 5 (-1), 3) := by decide +kernel
theorem d_Mo_makes_51 : decode m_Mo_makes.2.1 51 = .ok (.goto (-43), 3) := by decide +kernel
theorem d_Mo_makes_54 : decode m_Mo_makes.2.1 54 = .ok (.iload 4, 2) := by decide +kernel
theorem d_Mo_makes_56 : decode m_Mo_makes.2.1 56 = .ok (.ifCond .ge 5, 3) := by decide +kernel
theorem d_Mo_makes_59 : decode m_Mo_makes.2.1 59 = .ok (.iconst 0, 1) := by decide +kernel
theorem d_Mo_makes_60 : decode m_Mo_makes.2.1 60 = .ok (.ireturn, 1) := by decide +kernel
theorem d_Mo_makes_61 : decode m_Mo_makes.2.1 61 = .ok (.aload_n 0, 1) := by decide +kernel
theorem d_Mo_makes_62 : decode m_Mo_makes.2.1 62 = .ok (.iload_n 3, 1) := by decide +kernel
theorem d_Mo_makes_63 : decode m_Mo_makes.2.1 63 = .ok (.aload_n 0, 1) := by decide +kernel
theorem d_Mo_makes_64 : decode m_Mo_makes.2.1 64 = .ok (.getfield 50, 3) := by decide +kernel
theorem d_Mo_makes_67 : decode m_Mo_makes.2.1 67 = .ok (.iconst 4, 1) := by decide +kernel
theorem d_Mo_makes_68 : decode m_Mo_makes.2.1 68 = .ok (.iload_n 1, 1) := by decide +kernel
theorem d_Mo_makes_69 : decode m_Mo_makes.2.1 69 = .ok (.imul, 1) := by decide +kernel
theorem d_Mo_makes_70 : decode m_Mo_makes.2.1 70 = .ok (.iload_n 3, 1) := by decide +kernel
theorem d_Mo_makes_71 : decode m_Mo_makes.2.1 71 = .ok (.iadd, 1) := by decide +kernel
theorem d_Mo_makes_72 : decode m_Mo_makes.2.1 72 = .ok (.iaload, 1) := by decide +kernel
theorem d_Mo_makes_73 : decode m_Mo_makes.2.1 73 = .ok (.iload 4, 2) := by decide +kernel
theorem d_Mo_makes_75 : decode m_Mo_makes.2.1 75 = .ok (.aload_n 0, 1) := by decide +kernel
theorem d_Mo_makes_76 : decode m_Mo_makes.2.1 76 = .ok (.getfield 50, 3) := by decide +kernel
theorem d_Mo_makes_79 : decode m_Mo_makes.2.1 79 = .ok (.iconst 4, 1) := by decide +kernel
theorem d_Mo_makes_80 : decode m_Mo_makes.2.1 80 = .ok (.iload_n 1, 1) := by decide +kernel
theorem d_Mo_makes_81 : decode m_Mo_makes.2.1 81 = .ok (.imul, 1) := by decide +kernel
theorem d_Mo_makes_82 : decode m_Mo_makes.2.1 82 = .ok (.iload 4, 2) := by decide +kernel
theorem d_Mo_makes_84 : decode m_Mo_makes.2.1 84 = .ok (.iadd, 1) := by decide +kernel
theorem d_Mo_makes_85 : decode m_Mo_makes.2.1 85 = .ok (.iaload, 1) := by decide +kernel
theorem d_Mo_makes_86 : decode m_Mo_makes.2.1 86 = .ok (.invokestatic 213, 3) := by decide +kernel
theorem d_Mo_makes_89 : decode m_Mo_makes.2.1 89 = .ok (.putfield 217, 3) := by decide +kernel
theorem d_Mo_makes_92 : decode m_Mo_makes.2.1 92 = .ok (.aload_n 0, 1) := by decide +kernel
theorem d_Mo_makes_93 : decode m_Mo_makes.2.1 93 = .ok (.getfield 217, 3) := by decide +kernel
theorem d_Mo_makes_96 : decode m_Mo_makes.2.1 96 = .ok (.sipush 255, 3) := by decide +kernel
theorem d_Mo_makes_99 : decode m_Mo_makes.2.1 99 = .ok (.iand, 1) := by decide +kernel
theorem d_Mo_makes_100 : decode m_Mo_makes.2.1 100 = .ok (.aload_n 0, 1) := by decide +kernel
theorem d_Mo_makes_101 : decode m_Mo_makes.2.1 101 = .ok (.getfield 217, 3) := by decide +kernel
theorem d_Mo_makes_104 : decode m_Mo_makes.2.1 104 = .ok (.bipush 8, 2) := by decide +kernel
theorem d_Mo_makes_106 : decode m_Mo_makes.2.1 106 = .ok (.ishr, 1) := by decide +kernel
theorem d_Mo_makes_107 : decode m_Mo_makes.2.1 107 = .ok (.invokestatic 133, 3) := by decide +kernel
theorem d_Mo_makes_110 : decode m_Mo_makes.2.1 110 = .ok (.iload_n 2, 1) := by decide +kernel
theorem d_Mo_makes_111 : decode m_Mo_makes.2.1 111 = .ok (.if_icmp .ne 7, 3) := by decide +kernel
theorem d_Mo_makes_114 : decode m_Mo_makes.2.1 114 = .ok (.iconst 1, 1) := by decide +kernel
theorem d_Mo_makes_115 : decode m_Mo_makes.2.1 115 = .ok (.goto 4, 3) := by decide +kernel
theorem d_Mo_makes_118 : decode m_Mo_makes.2.1 118 = .ok (.iconst 0, 1) := by decide +kernel
theorem d_Mo_makes_119 : decode m_Mo_makes.2.1 119 = .ok (.ireturn, 1) := by decide +kernel
theorem d_Mo_solve_0 : decode m_Mo_solve.2.1 0 = .ok (.iconst 0, 1) := by decide +kernel
theorem d_Mo_solve_1 : decode m_Mo_solve.2.1 1 = .ok (.istore 4, 2) := by decide +kernel
theorem d_Mo_solve_3 : decode m_Mo_solve.2.1 3 = .ok (.iload 4, 2) := by decide +kernel
theorem d_Mo_solve_5 : decode m_Mo_solve.2.1 5 = .ok (.sipush 255, 3) := by decide +kernel
theorem d_Mo_solve_8 : decode m_Mo_solve.2.1 8 = .ok (.if_icmp .ge 23, 3) := by decide +kernel
theorem d_Mo_solve_11 : decode m_Mo_solve.2.1 11 = .ok (.iload_n 0, 1) := by decide +kernel
theorem d_Mo_solve_12 : decode m_Mo_solve.2.1 12 = .ok (.iload_n 2, 1) := by decide +kernel
theorem d_Mo_solve_13 : decode m_Mo_solve.2.1 13 = .ok (.ixor, 1) := by decide +kernel
theorem d_Mo_solve_14 : decode m_Mo_solve.2.1 14 = .ok (.iload 4, 2) := by decide +kernel
theorem d_Mo_solve_16 : decode m_Mo_solve.2.1 16 = .ok (.invokestatic 106, 3) := by decide +kernel
theorem d_Mo_solve_19 : decode m_Mo_solve.2.1 19 = .ok (.iload_n 1, 1) := by decide +kernel
theorem d_Mo_solve_20 : decode m_Mo_solve.2.1 20 = .ok (.iload_n 3, 1) := by decide +kernel
