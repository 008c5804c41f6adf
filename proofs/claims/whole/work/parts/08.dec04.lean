theorem d_Mo_solve_21 : decode m_Mo_solve.2.1 21 = .ok (.ixor, 1) := by decide +kernel
theorem d_Mo_solve_22 : decode m_Mo_solve.2.1 22 = .ok (.if_icmp .eq 9, 3) := by decide +kernel
theorem d_Mo_solve_25 : decode m_Mo_solve.2.1 25 = .ok (.iinc 4 1, 3) := by decide +kernel
theorem d_Mo_solve_28 : decode m_Mo_solve.2.1 28 = .ok (.goto (-25), 3) := by decide +kernel
theorem d_Mo_solve_31 : decode m_Mo_solve.2.1 31 = .ok (.iload_n 1, 1) := by decide +kernel
theorem d_Mo_solve_32 : decode m_Mo_solve.2.1 32 = .ok (.iload_n 0, 1) := by decide +kernel
theorem d_Mo_solve_33 : decode m_Mo_solve.2.1 33 = .ok (.iload 4, 2) := by decide +kernel
theorem d_Mo_solve_35 : decode m_Mo_solve.2.1 35 = .ok (.invokestatic 106, 3) := by decide +kernel
theorem d_Mo_solve_38 : decode m_Mo_solve.2.1 38 = .ok (.ixor, 1) := by decide +kernel
theorem d_Mo_solve_39 : decode m_Mo_solve.2.1 39 = .ok (.istore 5, 2) := by decide +kernel
theorem d_Mo_solve_41 : decode m_Mo_solve.2.1 41 = .ok (.iload 5, 2) := by decide +kernel
theorem d_Mo_solve_43 : decode m_Mo_solve.2.1 43 = .ok (.sipush 256, 3) := by decide +kernel
theorem d_Mo_solve_46 : decode m_Mo_solve.2.1 46 = .ok (.iload 5, 2) := by decide +kernel
theorem d_Mo_solve_48 : decode m_Mo_solve.2.1 48 = .ok (.iload 4, 2) := by decide +kernel
theorem d_Mo_solve_50 : decode m_Mo_solve.2.1 50 = .ok (.ixor, 1) := by decide +kernel
theorem d_Mo_solve_51 : decode m_Mo_solve.2.1 51 = .ok (.imul, 1) := by decide +kernel
theorem d_Mo_solve_52 : decode m_Mo_solve.2.1 52 = .ok (.iadd, 1) := by decide +kernel
theorem d_Mo_solve_53 : decode m_Mo_solve.2.1 53 = .ok (.ireturn, 1) := by decide +kernel
theorem d_Mo_readies_0 : decode m_Mo_readies.2.1 0 = .ok (.iconst 0, 1) := by decide +kernel
theorem d_Mo_readies_1 : decode m_Mo_readies.2.1 1 = .ok (.istore_n 3, 1) := by decide +kernel
theorem d_Mo_readies_2 : decode m_Mo_readies.2.1 2 = .ok (.iconst 0, 1) := by decide +kernel
theorem d_Mo_readies_3 : decode m_Mo_readies.2.1 3 = .ok (.istore 4, 2) := by decide +kernel
theorem d_Mo_readies_5 : decode m_Mo_readies.2.1 5 = .ok (.iload 4, 2) := by decide +kernel
theorem d_Mo_readies_7 : decode m_Mo_readies.2.1 7 = .ok (.iconst 4, 1) := by decide +kernel
theorem d_Mo_readies_8 : decode m_Mo_readies.2.1 8 = .ok (.if_icmp .ge 46, 3) := by decide +kernel
theorem d_Mo_readies_11 : decode m_Mo_readies.2.1 11 = .ok (.aload_n 0, 1) := by decide +kernel
theorem d_Mo_readies_12 : decode m_Mo_readies.2.1 12 = .ok (.getfield 53, 3) := by decide +kernel
theorem d_Mo_readies_15 : decode m_Mo_readies.2.1 15 = .ok (.iconst 4, 1) := by decide +kernel
theorem d_Mo_readies_16 : decode m_Mo_readies.2.1 16 = .ok (.iload_n 1, 1) := by decide +kernel
theorem d_Mo_readies_17 : decode m_Mo_readies.2.1 17 = .ok (.imul, 1) := by decide +kernel
theorem d_Mo_readies_18 : decode m_Mo_readies.2.1 18 = .ok (.iload 4, 2) := by decide +kernel
theorem d_Mo_readies_20 : decode m_Mo_readies.2.1 20 = .ok (.iadd, 1) := by decide +kernel
theorem d_Mo_readies_21 : decode m_Mo_readies.2.1 21 = .ok (.baload, 1) := by decide +kernel
theorem d_Mo_readies_22 : decode m_Mo_readies.2.1 22 = .ok (.ifCond .eq 24, 3) := by decide +kernel
theorem d_Mo_readies_25 : decode m_Mo_readies.2.1 25 = .ok (.aload_n 0, 1) := by decide +kernel
theorem d_Mo_readies_26 : decode m_Mo_readies.2.1 26 = .ok (.getfield 56, 3) := by decide +kernel
theorem d_Mo_readies_29 : decode m_Mo_readies.2.1 29 = .ok (.iconst 4, 1) := by decide +kernel
theorem d_Mo_readies_30 : decode m_Mo_readies.2.1 30 = .ok (.iload_n 1, 1) := by decide +kernel
theorem d_Mo_readies_31 : decode m_Mo_readies.2.1 31 = .ok (.imul, 1) := by decide +kernel
theorem d_Mo_readies_32 : decode m_Mo_readies.2.1 32 = .ok (.iload 4, 2) := by decide +kernel
theorem d_Mo_readies_34 : decode m_Mo_readies.2.1 34 = .ok (.iadd, 1) := by decide +kernel
theorem d_Mo_readies_35 : decode m_Mo_readies.2.1 35 = .ok (.iaload, 1) := by decide +kernel
theorem d_Mo_readies_36 : decode m_Mo_readies.2.1 36 = .ok (.iload_n 2, 1) := by decide +kernel
theorem d_Mo_readies_37 : decode m_Mo_readies.2.1 37 = .ok (.if_icmp .ne 9, 3) := by decide +kernel
theorem d_Mo_readies_40 : decode m_Mo_readies.2.1 40 = .ok (.iload_n 3, 1) := by decide +kernel
theorem d_Mo_readies_41 : decode m_Mo_readies.2.1 41 = .ok (.iconst 1, 1) := by decide +kernel
theorem d_Mo_readies_42 : decode m_Mo_readies.2.1 42 = .ok (.iadd, 1) := by decide +kernel
theorem d_Mo_readies_43 : decode m_Mo_readies.2.1 43 = .ok (.goto 4, 3) := by decide +kernel
theorem d_Mo_readies_46 : decode m_Mo_readies.2.1 46 = .ok (.iload_n 3, 1) := by decide +kernel
theorem d_Mo_readies_47 : decode m_Mo_readies.2.1 47 = .ok (.istore_n 3, 1) := by decide +kernel
theorem d_Mo_readies_48 : decode m_Mo_readies.2.1 48 = .ok (.iinc 4 1, 3) := by decide +kernel
theorem d_Mo_readies_51 : decode m_Mo_readies.2.1 51 = .ok (.goto (-46), 3) := by decide +kernel
theorem d_Mo_readies_54 : decode m_Mo_readies.2.1 54 = .ok (.iload_n 3, 1) := by decide +kernel
theorem d_Mo_readies_55 : decode m_Mo_readies.2.1 55 = .ok (.ireturn, 1) := by decide +kernel
theorem d_Mo_proposal_0 : decode m_Mo_proposal.2.1 0 = .ok (.iconst 0, 1) := by decide +kernel
theorem d_Mo_proposal_1 : decode m_Mo_proposal.2.1 1 = .ok (.istore_n 3, 1) := by decide +kernel
theorem d_Mo_proposal_2 : decode m_Mo_proposal.2.1 2 = .ok (.iload_n 3, 1) := by decide +kernel
theorem d_Mo_proposal_3 : decode m_Mo_proposal.2.1 3 = .ok (.iconst 4, 1) := by decide +kernel
theorem d_Mo_proposal_4 : decode m_Mo_proposal.2.1 4 = .ok (.if_icmp .ge 82, 3) := by decide +kernel
theorem d_Mo_proposal_7 : decode m_Mo_proposal.2.1 7 = .ok (.aload_n 0, 1) := by decide +kernel
theorem d_Mo_proposal_8 : decode m_Mo_proposal.2.1 8 = .ok (.getfield 56, 3) := by decide +kernel
theorem d_Mo_proposal_11 : decode m_Mo_proposal.2.1 11 = .ok (.iconst 4, 1) := by decide +kernel
theorem d_Mo_proposal_12 : decode m_Mo_proposal.2.1 12 = .ok (.iload_n 1, 1) := by decide +kernel
theorem d_Mo_proposal_13 : decode m_Mo_proposal.2.1 13 = .ok (.imul, 1) := by decide +kernel
theorem d_Mo_proposal_14 : decode m_Mo_proposal.2.1 14 = .ok (.iload_n 3, 1) := by decide +kernel
theorem d_Mo_proposal_15 : decode m_Mo_proposal.2.1 15 = .ok (.iadd, 1) := by decide +kernel
theorem d_Mo_proposal_16 : decode m_Mo_proposal.2.1 16 = .ok (.iaload, 1) := by decide +kernel
theorem d_Mo_proposal_17 : decode m_Mo_proposal.2.1 17 = .ok (.istore 4, 2) := by decide +kernel
theorem d_Mo_proposal_19 : decode m_Mo_proposal.2.1 19 = .ok (.aload_n 0, 1) := by decide +kernel
theorem d_Mo_proposal_20 : decode m_Mo_proposal.2.1 20 = .ok (.getfield 53, 3) := by decide +kernel
theorem d_Mo_proposal_23 : decode m_Mo_proposal.2.1 23 = .ok (.iconst 4, 1) := by decide +kernel
theorem d_Mo_proposal_24 : decode m_Mo_proposal.2.1 24 = .ok (.iload_n 1, 1) := by decide +kernel
theorem d_Mo_proposal_25 : decode m_Mo_proposal.2.1 25 = .ok (.imul, 1) := by decide +kernel
theorem d_Mo_proposal_26 : decode m_Mo_proposal.2.1 26 = .ok (.iload_n 3, 1) := by decide +kernel
theorem d_Mo_proposal_27 : decode m_Mo_proposal.2.1 27 = .ok (.iadd, 1) := by decide +kernel
theorem d_Mo_proposal_28 : decode m_Mo_proposal.2.1 28 = .ok (.baload, 1) := by decide +kernel
theorem d_Mo_proposal_29 : decode m_Mo_proposal.2.1 29 = .ok (.ifCond .eq 51, 3) := by decide +kernel
theorem d_Mo_proposal_32 : decode m_Mo_proposal.2.1 32 = .ok (.aload_n 0, 1) := by decide +kernel
theorem d_Mo_proposal_33 : decode m_Mo_proposal.2.1 33 = .ok (.iload_n 1, 1) := by decide +kernel
theorem d_Mo_proposal_34 : decode m_Mo_proposal.2.1 34 = .ok (.iload 4, 2) := by decide +kernel
theorem d_Mo_proposal_36 : decode m_Mo_proposal.2.1 36 = .ok (.invokevirtual 226, 3) := by decide +kernel
theorem d_Mo_proposal_39 : decode m_Mo_proposal.2.1 39 = .ok (.iconst 3, 1) := by decide +kernel
theorem d_Mo_proposal_40 : decode m_Mo_proposal.2.1 40 = .ok (.if_icmp .lt 40, 3) := by decide +kernel
theorem d_Mo_proposal_43 : decode m_Mo_proposal.2.1 43 = .ok (.aload_n 0, 1) := by decide +kernel
theorem d_Mo_proposal_44 : decode m_Mo_proposal.2.1 44 = .ok (.iload_n 1, 1) := by decide +kernel
theorem d_Mo_proposal_45 : decode m_Mo_proposal.2.1 45 = .ok (.iload 4, 2) := by decide +kernel
theorem d_Mo_proposal_47 : decode m_Mo_proposal.2.1 47 = .ok (.invokevirtual 220, 3) := by decide +kernel
theorem d_Mo_proposal_50 : decode m_Mo_proposal.2.1 50 = .ok (.iconst 2, 1) := by decide +kernel
theorem d_Mo_proposal_51 : decode m_Mo_proposal.2.1 51 = .ok (.if_icmp .lt 29, 3) := by decide +kernel
theorem d_Mo_proposal_54 : decode m_Mo_proposal.2.1 54 = .ok (.aload_n 0, 1) := by decide +kernel
theorem d_Mo_proposal_55 : decode m_Mo_proposal.2.1 55 = .ok (.getfield 77, 3) := by decide +kernel
theorem d_Mo_proposal_58 : decode m_Mo_proposal.2.1 58 = .ok (.iload_n 2, 1) := by decide +kernel
theorem d_Mo_proposal_59 : decode m_Mo_proposal.2.1 59 = .ok (.aload_n 0, 1) := by decide +kernel
theorem d_Mo_proposal_60 : decode m_Mo_proposal.2.1 60 = .ok (.iload_n 1, 1) := by decide +kernel
theorem d_Mo_proposal_61 : decode m_Mo_proposal.2.1 61 = .ok (.iload 4, 2) := by decide +kernel
theorem d_Mo_proposal_63 : decode m_Mo_proposal.2.1 63 = .ok (.invokevirtual 223, 3) := by decide +kernel
theorem d_Mo_proposal_66 : decode m_Mo_proposal.2.1 66 = .ok (.ifCond .eq 10, 3) := by decide +kernel
theorem d_Mo_proposal_69 : decode m_Mo_proposal.2.1 69 = .ok (.aload_n 0, 1) := by decide +kernel
theorem d_Mo_proposal_70 : decode m_Mo_proposal.2.1 70 = .ok (.getfield 217, 3) := by decide +kernel
theorem d_Mo_proposal_73 : decode m_Mo_proposal.2.1 73 = .ok (.goto 4, 3) := by decide +kernel
theorem d_Mo_proposal_76 : decode m_Mo_proposal.2.1 76 = .ok (.iconst 0, 1) := by decide +kernel
theorem d_Mo_proposal_77 : decode m_Mo_proposal.2.1 77 = .ok (.iastore, 1) := by decide +kernel
theorem d_Mo_proposal_78 : decode m_Mo_proposal.2.1 78 = .ok (.iconst 1, 1) := by decide +kernel
theorem d_Mo_proposal_79 : decode m_Mo_proposal.2.1 79 = .ok (.ireturn, 1) := by decide +kernel
theorem d_Mo_proposal_80 : decode m_Mo_proposal.2.1 80 = .ok (.iinc 3 1, 3) := by decide +kernel
theorem d_Mo_proposal_83 : decode m_Mo_proposal.2.1 83 = .ok (.goto (-81), 3) := by decide +kernel
theorem d_Mo_proposal_86 : decode m_Mo_proposal.2.1 86 = .ok (.iconst 0, 1) := by decide +kernel
theorem d_Mo_proposal_87 : decode m_Mo_proposal.2.1 87 = .ok (.ireturn, 1) := by decide +kernel
theorem d_Mo_agree_0 : decode m_Mo_agree.2.1 0 = .ok (.aload_n 0, 1) := by decide +kernel
theorem d_Mo_agree_1 : decode m_Mo_agree.2.1 1 = .ok (.getfield 86, 3) := by decide +kernel
theorem d_Mo_agree_4 : decode m_Mo_agree.2.1 4 = .ok (.iload 5, 2) := by decide +kernel
theorem d_Mo_agree_6 : decode m_Mo_agree.2.1 6 = .ok (.iaload, 1) := by decide +kernel
theorem d_Mo_agree_7 : decode m_Mo_agree.2.1 7 = .ok (.istore 6, 2) := by decide +kernel
theorem d_Mo_agree_9 : decode m_Mo_agree.2.1 9 = .ok (.bipush 24, 2) := by decide +kernel
theorem d_Mo_agree_11 : decode m_Mo_agree.2.1 11 = .ok (.iload 4, 2) := by decide +kernel
theorem d_Mo_agree_13 : decode m_Mo_agree.2.1 13 = .ok (.imul, 1) := by decide +kernel
theorem d_Mo_agree_14 : decode m_Mo_agree.2.1 14 = .ok (.iconst 4, 1) := by decide +kernel
theorem d_Mo_agree_15 : decode m_Mo_agree.2.1 15 = .ok (.iload 6, 2) := by decide +kernel
theorem d_Mo_agree_17 : decode m_Mo_agree.2.1 17 = .ok (.imul, 1) := by decide +kernel
theorem d_Mo_agree_18 : decode m_Mo_agree.2.1 18 = .ok (.iadd, 1) := by decide +kernel
theorem d_Mo_agree_19 : decode m_Mo_agree.2.1 19 = .ok (.istore 7, 2) := by decide +kernel
theorem d_Mo_agree_21 : decode m_Mo_agree.2.1 21 = .ok (.aload_n 0, 1) := by decide +kernel
theorem d_Mo_agree_22 : decode m_Mo_agree.2.1 22 = .ok (.getfield 71, 3) := by decide +kernel
theorem d_Mo_agree_25 : decode m_Mo_agree.2.1 25 = .ok (.bipush 6, 2) := by decide +kernel
theorem d_Mo_agree_27 : decode m_Mo_agree.2.1 27 = .ok (.iload 4, 2) := by decide +kernel
theorem d_Mo_agree_29 : decode m_Mo_agree.2.1 29 = .ok (.imul, 1) := by decide +kernel
theorem d_Mo_agree_30 : decode m_Mo_agree.2.1 30 = .ok (.iload 6, 2) := by decide +kernel
theorem d_Mo_agree_32 : decode m_Mo_agree.2.1 32 = .ok (.iadd, 1) := by decide +kernel
theorem d_Mo_agree_33 : decode m_Mo_agree.2.1 33 = .ok (.iaload, 1) := by decide +kernel
theorem d_Mo_agree_34 : decode m_Mo_agree.2.1 34 = .ok (.istore 8, 2) := by decide +kernel
theorem d_Mo_agree_36 : decode m_Mo_agree.2.1 36 = .ok (.iload 8, 2) := by decide +kernel
theorem d_Mo_agree_38 : decode m_Mo_agree.2.1 38 = .ok (.aload_n 0, 1) := by decide +kernel
theorem d_Mo_agree_39 : decode m_Mo_agree.2.1 39 = .ok (.getfield 83, 3) := by decide +kernel
theorem d_Mo_agree_42 : decode m_Mo_agree.2.1 42 = .ok (.iload 5, 2) := by decide +kernel
theorem d_Mo_agree_44 : decode m_Mo_agree.2.1 44 = .ok (.iaload, 1) := by decide +kernel
theorem d_Mo_agree_45 : decode m_Mo_agree.2.1 45 = .ok (.ishr, 1) := by decide +kernel
theorem d_Mo_agree_46 : decode m_Mo_agree.2.1 46 = .ok (.iconst 1, 1) := by decide +kernel
theorem d_Mo_agree_47 : decode m_Mo_agree.2.1 47 = .ok (.iand, 1) := by decide +kernel
theorem d_Mo_agree_48 : decode m_Mo_agree.2.1 48 = .ok (.ifCond .ne 23, 3) := by decide +kernel
theorem d_Mo_agree_51 : decode m_Mo_agree.2.1 51 = .ok (.aload_n 0, 1) := by decide +kernel
theorem d_Mo_agree_52 : decode m_Mo_agree.2.1 52 = .ok (.iload_n 1, 1) := by decide +kernel
theorem d_Mo_agree_53 : decode m_Mo_agree.2.1 53 = .ok (.iload_n 2, 1) := by decide +kernel
theorem d_Mo_agree_54 : decode m_Mo_agree.2.1 54 = .ok (.iload_n 3, 1) := by decide +kernel
theorem d_Mo_agree_55 : decode m_Mo_agree.2.1 55 = .ok (.iload 4, 2) := by decide +kernel
theorem d_Mo_agree_57 : decode m_Mo_agree.2.1 57 = .ok (.iload 6, 2) := by decide +kernel
theorem d_Mo_agree_59 : decode m_Mo_agree.2.1 59 = .ok (.aload_n 0, 1) := by decide +kernel
theorem d_Mo_agree_60 : decode m_Mo_agree.2.1 60 = .ok (.getfield 83, 3) := by decide +kernel
theorem d_Mo_agree_63 : decode m_Mo_agree.2.1 63 = .ok (.iload 5, 2) := by decide +kernel
theorem d_Mo_agree_65 : decode m_Mo_agree.2.1 65 = .ok (.iaload, 1) := by decide +kernel
theorem d_Mo_agree_66 : decode m_Mo_agree.2.1 66 = .ok (.invokevirtual 229, 3) := by decide +kernel
theorem d_Mo_agree_69 : decode m_Mo_agree.2.1 69 = .ok (.iconst 1, 1) := by decide +kernel
theorem d_Mo_agree_70 : decode m_Mo_agree.2.1 70 = .ok (.ireturn, 1) := by decide +kernel
theorem d_Mo_agree_71 : decode m_Mo_agree.2.1 71 = .ok (.iconst 0, 1) := by decide +kernel
theorem d_Mo_agree_72 : decode m_Mo_agree.2.1 72 = .ok (.istore 9, 2) := by decide +kernel
theorem d_Mo_agree_74 : decode m_Mo_agree.2.1 74 = .ok (.iload 9, 2) := by decide +kernel
theorem d_Mo_agree_76 : decode m_Mo_agree.2.1 76 = .ok (.iconst 2, 1) := by decide +kernel
theorem d_Mo_agree_77 : decode m_Mo_agree.2.1 77 = .ok (.if_icmp .ge 46, 3) := by decide +kernel
theorem d_Mo_agree_80 : decode m_Mo_agree.2.1 80 = .ok (.iload 8, 2) := by decide +kernel
theorem d_Mo_agree_82 : decode m_Mo_agree.2.1 82 = .ok (.iload 9, 2) := by decide +kernel
theorem d_Mo_agree_84 : decode m_Mo_agree.2.1 84 = .ok (.ishr, 1) := by decide +kernel
theorem d_Mo_agree_85 : decode m_Mo_agree.2.1 85 = .ok (.iconst 1, 1) := by decide +kernel
theorem d_Mo_agree_86 : decode m_Mo_agree.2.1 86 = .ok (.iand, 1) := by decide +kernel
theorem d_Mo_agree_87 : decode m_Mo_agree.2.1 87 = .ok (.ifCond .ne 30, 3) := by decide +kernel
theorem d_Mo_agree_90 : decode m_Mo_agree.2.1 90 = .ok (.aload_n 0, 1) := by decide +kernel
theorem d_Mo_agree_91 : decode m_Mo_agree.2.1 91 = .ok (.iload 7, 2) := by decide +kernel
theorem d_Mo_agree_93 : decode m_Mo_agree.2.1 93 = .ok (.iload 9, 2) := by decide +kernel
theorem d_Mo_agree_95 : decode m_Mo_agree.2.1 95 = .ok (.invokevirtual 233, 3) := by decide +kernel
theorem d_Mo_agree_98 : decode m_Mo_agree.2.1 98 = .ok (.iconst 2, 1) := by decide +kernel
theorem d_Mo_agree_99 : decode m_Mo_agree.2.1 99 = .ok (.if_icmp .lt 18, 3) := by decide +kernel
theorem d_Mo_agree_102 : decode m_Mo_agree.2.1 102 = .ok (.aload_n 0, 1) := by decide +kernel
theorem d_Mo_agree_103 : decode m_Mo_agree.2.1 103 = .ok (.iload_n 1, 1) := by decide +kernel
theorem d_Mo_agree_104 : decode m_Mo_agree.2.1 104 = .ok (.iload_n 2, 1) := by decide +kernel
theorem d_Mo_agree_105 : decode m_Mo_agree.2.1 105 = .ok (.iload_n 3, 1) := by decide +kernel
theorem d_Mo_agree_106 : decode m_Mo_agree.2.1 106 = .ok (.iload 4, 2) := by decide +kernel
theorem d_Mo_agree_108 : decode m_Mo_agree.2.1 108 = .ok (.iload 6, 2) := by decide +kernel
theorem d_Mo_agree_110 : decode m_Mo_agree.2.1 110 = .ok (.iload 9, 2) := by decide +kernel
theorem d_Mo_agree_112 : decode m_Mo_agree.2.1 112 = .ok (.invokevirtual 229, 3) := by decide +kernel
theorem d_Mo_agree_115 : decode m_Mo_agree.2.1 115 = .ok (.iconst 1, 1) := by decide +kernel
theorem d_Mo_agree_116 : decode m_Mo_agree.2.1 116 = .ok (.ireturn, 1) := by decide +kernel
theorem d_Mo_agree_117 : decode m_Mo_agree.2.1 117 = .ok (.iinc 9 1, 3) := by decide +kernel
theorem d_Mo_agree_120 : decode m_Mo_agree.2.1 120 = .ok (.goto (-46), 3) := by decide +kernel
theorem d_Mo_agree_123 : decode m_Mo_agree.2.1 123 = .ok (.iconst 0, 1) := by decide +kernel
theorem d_Mo_agree_124 : decode m_Mo_agree.2.1 124 = .ok (.istore 9, 2) := by decide +kernel
theorem d_Mo_agree_126 : decode m_Mo_agree.2.1 126 = .ok (.iload 9, 2) := by decide +kernel
theorem d_Mo_agree_128 : decode m_Mo_agree.2.1 128 = .ok (.iconst 2, 1) := by decide +kernel
theorem d_Mo_agree_129 : decode m_Mo_agree.2.1 129 = .ok (.if_icmp .ge 86, 3) := by decide +kernel
theorem d_Mo_agree_132 : decode m_Mo_agree.2.1 132 = .ok (.aload_n 0, 1) := by decide +kernel
theorem d_Mo_agree_133 : decode m_Mo_agree.2.1 133 = .ok (.getfield 89, 3) := by decide +kernel
theorem d_Mo_agree_136 : decode m_Mo_agree.2.1 136 = .ok (.iload 5, 2) := by decide +kernel
theorem d_Mo_agree_138 : decode m_Mo_agree.2.1 138 = .ok (.iaload, 1) := by decide +kernel
theorem d_Mo_agree_139 : decode m_Mo_agree.2.1 139 = .ok (.iload 9, 2) := by decide +kernel
theorem d_Mo_agree_141 : decode m_Mo_agree.2.1 141 = .ok (.ishr, 1) := by decide +kernel
theorem d_Mo_agree_142 : decode m_Mo_agree.2.1 142 = .ok (.iconst 1, 1) := by decide +kernel
theorem d_Mo_agree_143 : decode m_Mo_agree.2.1 143 = .ok (.iand, 1) := by decide +kernel
theorem d_Mo_agree_144 : decode m_Mo_agree.2.1 144 = .ok (.ifCond .ne 65, 3) := by decide +kernel
theorem d_Mo_agree_147 : decode m_Mo_agree.2.1 147 = .ok (.aload_n 0, 1) := by decide +kernel
theorem d_Mo_agree_148 : decode m_Mo_agree.2.1 148 = .ok (.iload 7, 2) := by decide +kernel
theorem d_Mo_agree_150 : decode m_Mo_agree.2.1 150 = .ok (.iload 9, 2) := by decide +kernel
theorem d_Mo_agree_152 : decode m_Mo_agree.2.1 152 = .ok (.invokevirtual 233, 3) := by decide +kernel
theorem d_Mo_agree_155 : decode m_Mo_agree.2.1 155 = .ok (.iconst 3, 1) := by decide +kernel
theorem d_Mo_agree_156 : decode m_Mo_agree.2.1 156 = .ok (.if_icmp .lt 53, 3) := by decide +kernel
theorem d_Mo_agree_159 : decode m_Mo_agree.2.1 159 = .ok (.aload_n 0, 1) := by decide +kernel
theorem d_Mo_agree_160 : decode m_Mo_agree.2.1 160 = .ok (.getfield 92, 3) := by decide +kernel
theorem d_Mo_agree_163 : decode m_Mo_agree.2.1 163 = .ok (.iload 5, 2) := by decide +kernel
theorem d_Mo_agree_165 : decode m_Mo_agree.2.1 165 = .ok (.aload_n 0, 1) := by decide +kernel
theorem d_Mo_agree_166 : decode m_Mo_agree.2.1 166 = .ok (.getfield 89, 3) := by decide +kernel
theorem d_Mo_agree_169 : decode m_Mo_agree.2.1 169 = .ok (.iload 5, 2) := by decide +kernel
theorem d_Mo_agree_171 : decode m_Mo_agree.2.1 171 = .ok (.iaload, 1) := by decide +kernel
theorem d_Mo_agree_172 : decode m_Mo_agree.2.1 172 = .ok (.ifCond .ne 8, 3) := by decide +kernel
theorem d_Mo_agree_175 : decode m_Mo_agree.2.1 175 = .ok (.iload 9, 2) := by decide +kernel
theorem d_Mo_agree_177 : decode m_Mo_agree.2.1 177 = .ok (.goto 10, 3) := by decide +kernel
theorem d_Mo_agree_180 : decode m_Mo_agree.2.1 180 = .ok (.aload_n 0, 1) := by decide +kernel
theorem d_Mo_agree_181 : decode m_Mo_agree.2.1 181 = .ok (.getfield 92, 3) := by decide +kernel
theorem d_Mo_agree_184 : decode m_Mo_agree.2.1 184 = .ok (.iload 5, 2) := by decide +kernel
theorem d_Mo_agree_186 : decode m_Mo_agree.2.1 186 = .ok (.iaload, 1) := by decide +kernel
theorem d_Mo_agree_187 : decode m_Mo_agree.2.1 187 = .ok (.iastore, 1) := by decide +kernel
theorem d_Mo_agree_188 : decode m_Mo_agree.2.1 188 = .ok (.aload_n 0, 1) := by decide +kernel
theorem d_Mo_agree_189 : decode m_Mo_agree.2.1 189 = .ok (.getfield 89, 3) := by decide +kernel
theorem d_Mo_agree_192 : decode m_Mo_agree.2.1 192 = .ok (.iload 5, 2) := by decide +kernel
theorem d_Mo_agree_194 : decode m_Mo_agree.2.1 194 = .ok (.aload_n 0, 1) := by decide +kernel
theorem d_Mo_agree_195 : decode m_Mo_agree.2.1 195 = .ok (.getfield 89, 3) := by decide +kernel
theorem d_Mo_agree_198 : decode m_Mo_agree.2.1 198 = .ok (.iload 5, 2) := by decide +kernel
theorem d_Mo_agree_200 : decode m_Mo_agree.2.1 200 = .ok (.iaload, 1) := by decide +kernel
theorem d_Mo_agree_201 : decode m_Mo_agree.2.1 201 = .ok (.iconst 1, 1) := by decide +kernel
theorem d_Mo_agree_202 : decode m_Mo_agree.2.1 202 = .ok (.iload 9, 2) := by decide +kernel
theorem d_Mo_agree_204 : decode m_Mo_agree.2.1 204 = .ok (.ishl, 1) := by decide +kernel
theorem d_Mo_agree_205 : decode m_Mo_agree.2.1 205 = .ok (.ior, 1) := by decide +kernel
theorem d_Mo_agree_206 : decode m_Mo_agree.2.1 206 = .ok (.iastore, 1) := by decide +kernel
theorem d_Mo_agree_207 : decode m_Mo_agree.2.1 207 = .ok (.iconst 1, 1) := by decide +kernel
theorem d_Mo_agree_208 : decode m_Mo_agree.2.1 208 = .ok (.ireturn, 1) := by decide +kernel
theorem d_Mo_agree_209 : decode m_Mo_agree.2.1 209 = .ok (.iinc 9 1, 3) := by decide +kernel
theorem d_Mo_agree_212 : decode m_Mo_agree.2.1 212 = .ok (.goto (-86), 3) := by decide +kernel
theorem d_Mo_agree_215 : decode m_Mo_agree.2.1 215 = .ok (.aload_n 0, 1) := by decide +kernel
theorem d_Mo_agree_216 : decode m_Mo_agree.2.1 216 = .ok (.getfield 89, 3) := by decide +kernel
theorem d_Mo_agree_219 : decode m_Mo_agree.2.1 219 = .ok (.iload 5, 2) := by decide +kernel
theorem d_Mo_agree_221 : decode m_Mo_agree.2.1 221 = .ok (.iaload, 1) := by decide +kernel
theorem d_Mo_agree_222 : decode m_Mo_agree.2.1 222 = .ok (.ifCond .eq 53, 3) := by decide +kernel
theorem d_Mo_agree_225 : decode m_Mo_agree.2.1 225 = .ok (.aload_n 0, 1) := by decide +kernel
theorem d_Mo_agree_226 : decode m_Mo_agree.2.1 226 = .ok (.getfield 74, 3) := by decide +kernel
theorem d_Mo_agree_229 : decode m_Mo_agree.2.1 229 = .ok (.bipush 6, 2) := by decide +kernel
theorem d_Mo_agree_231 : decode m_Mo_agree.2.1 231 = .ok (.iload 4, 2) := by decide +kernel
theorem d_Mo_agree_233 : decode m_Mo_agree.2.1 233 = .ok (.imul, 1) := by decide +kernel
theorem d_Mo_agree_234 : decode m_Mo_agree.2.1 234 = .ok (.iload 6, 2) := by decide +kernel
theorem d_Mo_agree_236 : decode m_Mo_agree.2.1 236 = .ok (.iadd, 1) := by decide +kernel
theorem d_Mo_agree_237 : decode m_Mo_agree.2.1 237 = .ok (.baload, 1) := by decide +kernel
theorem d_Mo_agree_238 : decode m_Mo_agree.2.1 238 = .ok (.ifCond .ne 37, 3) := by decide +kernel
theorem d_Mo_agree_241 : decode m_Mo_agree.2.1 241 = .ok (.aload_n 0, 1) := by decide +kernel
theorem d_Mo_agree_242 : decode m_Mo_agree.2.1 242 = .ok (.getfield 74, 3) := by decide +kernel
theorem d_Mo_agree_245 : decode m_Mo_agree.2.1 245 = .ok (.bipush 6, 2) := by decide +kernel
theorem d_Mo_agree_247 : decode m_Mo_agree.2.1 247 = .ok (.iload 4, 2) := by decide +kernel
theorem d_Mo_agree_249 : decode m_Mo_agree.2.1 249 = .ok (.imul, 1) := by decide +kernel
theorem d_Mo_agree_250 : decode m_Mo_agree.2.1 250 = .ok (.iload 6, 2) := by decide +kernel
theorem d_Mo_agree_252 : decode m_Mo_agree.2.1 252 = .ok (.iadd, 1) := by decide +kernel
theorem d_Mo_agree_253 : decode m_Mo_agree.2.1 253 = .ok (.iconst 1, 1) := by decide +kernel
theorem d_Mo_agree_254 : decode m_Mo_agree.2.1 254 = .ok (.bastore, 1) := by decide +kernel
theorem d_Mo_agree_255 : decode m_Mo_agree.2.1 255 = .ok (.aload_n 0, 1) := by decide +kernel
theorem d_Mo_agree_256 : decode m_Mo_agree.2.1 256 = .ok (.iload_n 1, 1) := by decide +kernel
theorem d_Mo_agree_257 : decode m_Mo_agree.2.1 257 = .ok (.iload_n 2, 1) := by decide +kernel
theorem d_Mo_agree_258 : decode m_Mo_agree.2.1 258 = .ok (.iload_n 3, 1) := by decide +kernel
theorem d_Mo_agree_259 : decode m_Mo_agree.2.1 259 = .ok (.iconst 4, 1) := by decide +kernel
theorem d_Mo_agree_260 : decode m_Mo_agree.2.1 260 = .ok (.iload 6, 2) := by decide +kernel
theorem d_Mo_agree_262 : decode m_Mo_agree.2.1 262 = .ok (.aload_n 0, 1) := by decide +kernel
theorem d_Mo_agree_263 : decode m_Mo_agree.2.1 263 = .ok (.getfield 92, 3) := by decide +kernel
theorem d_Mo_agree_266 : decode m_Mo_agree.2.1 266 = .ok (.iload 5, 2) := by decide +kernel
theorem d_Mo_agree_268 : decode m_Mo_agree.2.1 268 = .ok (.iaload, 1) := by decide +kernel
theorem d_Mo_agree_269 : decode m_Mo_agree.2.1 269 = .ok (.iconst 0, 1) := by decide +kernel
theorem d_Mo_agree_270 : decode m_Mo_agree.2.1 270 = .ok (.invokevirtual 189, 3) := by decide +kernel
theorem d_Mo_agree_273 : decode m_Mo_agree.2.1 273 = .ok (.iconst 1, 1) := by decide +kernel
theorem d_Mo_agree_274 : decode m_Mo_agree.2.1 274 = .ok (.ireturn, 1) := by decide +kernel
theorem d_Mo_agree_275 : decode m_Mo_agree.2.1 275 = .ok (.aload_n 0, 1) := by decide +kernel
theorem d_Mo_agree_276 : decode m_Mo_agree.2.1 276 = .ok (.iload_n 2, 1) := by decide +kernel
theorem d_Mo_agree_277 : decode m_Mo_agree.2.1 277 = .ok (.iload_n 3, 1) := by decide +kernel
theorem d_Mo_agree_278 : decode m_Mo_agree.2.1 278 = .ok (.iload 7, 2) := by decide +kernel
theorem d_Mo_agree_280 : decode m_Mo_agree.2.1 280 = .ok (.iload 5, 2) := by decide +kernel
theorem d_Mo_agree_282 : decode m_Mo_agree.2.1 282 = .ok (.invokevirtual 236, 3) := by decide +kernel
theorem d_Mo_agree_285 : decode m_Mo_agree.2.1 285 = .ok (.ireturn, 1) := by decide +kernel
theorem d_Mo_vote_0 : decode m_Mo_vote.2.1 0 = .ok (.aload_n 0, 1) := by decide +kernel
theorem d_Mo_vote_1 : decode m_Mo_vote.2.1 1 = .ok (.getfield 71, 3) := by decide +kernel
theorem d_Mo_vote_4 : decode m_Mo_vote.2.1 4 = .ok (.bipush 6, 2) := by decide +kernel
theorem d_Mo_vote_6 : decode m_Mo_vote.2.1 6 = .ok (.iload 4, 2) := by decide +kernel
theorem d_Mo_vote_8 : decode m_Mo_vote.2.1 8 = .ok (.imul, 1) := by decide +kernel
theorem d_Mo_vote_9 : decode m_Mo_vote.2.1 9 = .ok (.iload 5, 2) := by decide +kernel
theorem d_Mo_vote_11 : decode m_Mo_vote.2.1 11 = .ok (.iadd, 1) := by decide +kernel
theorem d_Mo_vote_12 : decode m_Mo_vote.2.1 12 = .ok (.aload_n 0, 1) := by decide +kernel
theorem d_Mo_vote_13 : decode m_Mo_vote.2.1 13 = .ok (.getfield 71, 3) := by decide +kernel
theorem d_Mo_vote_16 : decode m_Mo_vote.2.1 16 = .ok (.bipush 6, 2) := by decide +kernel
theorem d_Mo_vote_18 : decode m_Mo_vote.2.1 18 = .ok (.iload 4, 2) := by decide +kernel
theorem d_Mo_vote_20 : decode m_Mo_vote.2.1 20 = .ok (.imul, 1) := by decide +kernel
theorem d_Mo_vote_21 : decode m_Mo_vote.2.1 21 = .ok (.iload 5, 2) := by decide +kernel
theorem d_Mo_vote_23 : decode m_Mo_vote.2.1 23 = .ok (.iadd, 1) := by decide +kernel
theorem d_Mo_vote_24 : decode m_Mo_vote.2.1 24 = .ok (.iaload, 1) := by decide +kernel
theorem d_Mo_vote_25 : decode m_Mo_vote.2.1 25 = .ok (.iconst 1, 1) := by decide +kernel
theorem d_Mo_vote_26 : decode m_Mo_vote.2.1 26 = .ok (.iload 6, 2) := by decide +kernel
theorem d_Mo_vote_28 : decode m_Mo_vote.2.1 28 = .ok (.ishl, 1) := by decide +kernel
theorem d_Mo_vote_29 : decode m_Mo_vote.2.1 29 = .ok (.ior, 1) := by decide +kernel
theorem d_Mo_vote_30 : decode m_Mo_vote.2.1 30 = .ok (.iastore, 1) := by decide +kernel
theorem d_Mo_vote_31 : decode m_Mo_vote.2.1 31 = .ok (.aload_n 0, 1) := by decide +kernel
theorem d_Mo_vote_32 : decode m_Mo_vote.2.1 32 = .ok (.iload_n 1, 1) := by decide +kernel
theorem d_Mo_vote_33 : decode m_Mo_vote.2.1 33 = .ok (.iload_n 2, 1) := by decide +kernel
theorem d_Mo_vote_34 : decode m_Mo_vote.2.1 34 = .ok (.iload_n 3, 1) := by decide +kernel
theorem d_Mo_vote_35 : decode m_Mo_vote.2.1 35 = .ok (.iconst 3, 1) := by decide +kernel
theorem d_Mo_vote_36 : decode m_Mo_vote.2.1 36 = .ok (.iload 5, 2) := by decide +kernel
theorem d_Mo_vote_38 : decode m_Mo_vote.2.1 38 = .ok (.iload 6, 2) := by decide +kernel
theorem d_Mo_vote_40 : decode m_Mo_vote.2.1 40 = .ok (.iconst 0, 1) := by decide +kernel
theorem d_Mo_vote_41 : decode m_Mo_vote.2.1 41 = .ok (.invokevirtual 189, 3) := by decide +kernel
theorem d_Mo_vote_44 : decode m_Mo_vote.2.1 44 = .ok (.return_, 1) := by decide +kernel
theorem d_Mo_voters_0 : decode m_Mo_voters.2.1 0 = .ok (.iconst 0, 1) := by decide +kernel
theorem d_Mo_voters_1 : decode m_Mo_voters.2.1 1 = .ok (.istore_n 3, 1) := by decide +kernel
theorem d_Mo_voters_2 : decode m_Mo_voters.2.1 2 = .ok (.iconst 0, 1) := by decide +kernel
theorem d_Mo_voters_3 : decode m_Mo_voters.2.1 3 = .ok (.istore 4, 2) := by decide +kernel
theorem d_Mo_voters_5 : decode m_Mo_voters.2.1 5 = .ok (.iload 4, 2) := by decide +kernel
theorem d_Mo_voters_7 : decode m_Mo_voters.2.1 7 = .ok (.iconst 4, 1) := by decide +kernel
theorem d_Mo_voters_8 : decode m_Mo_voters.2.1 8 = .ok (.if_icmp .ge 34, 3) := by decide +kernel
theorem d_Mo_voters_11 : decode m_Mo_voters.2.1 11 = .ok (.aload_n 0, 1) := by decide +kernel
theorem d_Mo_voters_12 : decode m_Mo_voters.2.1 12 = .ok (.getfield 59, 3) := by decide +kernel
theorem d_Mo_voters_15 : decode m_Mo_voters.2.1 15 = .ok (.iload_n 1, 1) := by decide +kernel
theorem d_Mo_voters_16 : decode m_Mo_voters.2.1 16 = .ok (.iload 4, 2) := by decide +kernel
theorem d_Mo_voters_18 : decode m_Mo_voters.2.1 18 = .ok (.iadd, 1) := by decide +kernel
theorem d_Mo_voters_19 : decode m_Mo_voters.2.1 19 = .ok (.iaload, 1) := by decide +kernel
theorem d_Mo_voters_20 : decode m_Mo_voters.2.1 20 = .ok (.iload_n 2, 1) := by decide +kernel
theorem d_Mo_voters_21 : decode m_Mo_voters.2.1 21 = .ok (.ishr, 1) := by decide +kernel
theorem d_Mo_voters_22 : decode m_Mo_voters.2.1 22 = .ok (.iconst 1, 1) := by decide +kernel
theorem d_Mo_voters_23 : decode m_Mo_voters.2.1 23 = .ok (.iand, 1) := by decide +kernel
theorem d_Mo_voters_24 : decode m_Mo_voters.2.1 24 = .ok (.iconst 1, 1) := by decide +kernel
theorem d_Mo_voters_25 : decode m_Mo_voters.2.1 25 = .ok (.if_icmp .ne 9, 3) := by decide +kernel
theorem d_Mo_voters_28 : decode m_Mo_voters.2.1 28 = .ok (.iload_n 3, 1) := by decide +kernel
theorem d_Mo_voters_29 : decode m_Mo_voters.2.1 29 = .ok (.iconst 1, 1) := by decide +kernel
theorem d_Mo_voters_30 : decode m_Mo_voters.2.1 30 = .ok (.iadd, 1) := by decide +kernel
theorem d_Mo_voters_31 : decode m_Mo_voters.2.1 31 = .ok (.goto 4, 3) := by decide +kernel
theorem d_Mo_voters_34 : decode m_Mo_voters.2.1 34 = .ok (.iload_n 3, 1) := by decide +kernel
theorem d_Mo_voters_35 : decode m_Mo_voters.2.1 35 = .ok (.istore_n 3, 1) := by decide +kernel
theorem d_Mo_voters_36 : decode m_Mo_voters.2.1 36 = .ok (.iinc 4 1, 3) := by decide +kernel
theorem d_Mo_voters_39 : decode m_Mo_voters.2.1 39 = .ok (.goto (-34), 3) := by decide +kernel
theorem d_Mo_voters_42 : decode m_Mo_voters.2.1 42 = .ok (.iload_n 3, 1) := by decide +kernel
theorem d_Mo_voters_43 : decode m_Mo_voters.2.1 43 = .ok (.ireturn, 1) := by decide +kernel
theorem d_Mo_finish_0 : decode m_Mo_finish.2.1 0 = .ok (.iconst 0, 1) := by decide +kernel
theorem d_Mo_finish_1 : decode m_Mo_finish.2.1 1 = .ok (.istore 5, 2) := by decide +kernel
theorem d_Mo_finish_3 : decode m_Mo_finish.2.1 3 = .ok (.iconst 0, 1) := by decide +kernel
theorem d_Mo_finish_4 : decode m_Mo_finish.2.1 4 = .ok (.istore 6, 2) := by decide +kernel
theorem d_Mo_finish_6 : decode m_Mo_finish.2.1 6 = .ok (.iconst 0, 1) := by decide +kernel
theorem d_Mo_finish_7 : decode m_Mo_finish.2.1 7 = .ok (.istore 7, 2) := by decide +kernel
theorem d_Mo_finish_9 : decode m_Mo_finish.2.1 9 = .ok (.iload 7, 2) := by decide +kernel
theorem d_Mo_finish_11 : decode m_Mo_finish.2.1 11 = .ok (.iconst 4, 1) := by decide +kernel
theorem d_Mo_finish_12 : decode m_Mo_finish.2.1 12 = .ok (.if_icmp .ge 83, 3) := by decide +kernel
theorem d_Mo_finish_15 : decode m_Mo_finish.2.1 15 = .ok (.aload_n 0, 1) := by decide +kernel
theorem d_Mo_finish_16 : decode m_Mo_finish.2.1 16 = .ok (.getfield 62, 3) := by decide +kernel
theorem d_Mo_finish_19 : decode m_Mo_finish.2.1 19 = .ok (.iload_n 3, 1) := by decide +kernel
theorem d_Mo_finish_20 : decode m_Mo_finish.2.1 20 = .ok (.iload 7, 2) := by decide +kernel
theorem d_Mo_finish_22 : decode m_Mo_finish.2.1 22 = .ok (.iadd, 1) := by decide +kernel
theorem d_Mo_finish_23 : decode m_Mo_finish.2.1 23 = .ok (.iaload, 1) := by decide +kernel
theorem d_Mo_finish_24 : decode m_Mo_finish.2.1 24 = .ok (.iconst 1, 1) := by decide +kernel
theorem d_Mo_finish_25 : decode m_Mo_finish.2.1 25 = .ok (.if_icmp .ne 23, 3) := by decide +kernel
theorem d_Mo_finish_28 : decode m_Mo_finish.2.1 28 = .ok (.aload_n 0, 1) := by decide +kernel
theorem d_Mo_finish_29 : decode m_Mo_finish.2.1 29 = .ok (.getfield 89, 3) := by decide +kernel
theorem d_Mo_finish_32 : decode m_Mo_finish.2.1 32 = .ok (.iload 4, 2) := by decide +kernel
theorem d_Mo_finish_34 : decode m_Mo_finish.2.1 34 = .ok (.iaload, 1) := by decide +kernel
theorem d_Mo_finish_35 : decode m_Mo_finish.2.1 35 = .ok (.iconst 1, 1) := by decide +kernel
theorem d_Mo_finish_36 : decode m_Mo_finish.2.1 36 = .ok (.iand, 1) := by decide +kernel
theorem d_Mo_finish_37 : decode m_Mo_finish.2.1 37 = .ok (.iconst 1, 1) := by decide +kernel
theorem d_Mo_finish_38 : decode m_Mo_finish.2.1 38 = .ok (.if_icmp .ne 10, 3) := by decide +kernel
theorem d_Mo_finish_41 : decode m_Mo_finish.2.1 41 = .ok (.iload 5, 2) := by decide +kernel
theorem d_Mo_finish_43 : decode m_Mo_finish.2.1 43 = .ok (.iconst 1, 1) := by decide +kernel
theorem d_Mo_finish_44 : decode m_Mo_finish.2.1 44 = .ok (.iadd, 1) := by decide +kernel
theorem d_Mo_finish_45 : decode m_Mo_finish.2.1 45 = .ok (.goto 5, 3) := by decide +kernel
theorem d_Mo_finish_48 : decode m_Mo_finish.2.1 48 = .ok (.iload 5, 2) := by decide +kernel
theorem d_Mo_finish_50 : decode m_Mo_finish.2.1 50 = .ok (.istore 5, 2) := by decide +kernel
theorem d_Mo_finish_52 : decode m_Mo_finish.2.1 52 = .ok (.aload_n 0, 1) := by decide +kernel
theorem d_Mo_finish_53 : decode m_Mo_finish.2.1 53 = .ok (.getfield 62, 3) := by decide +kernel
theorem d_Mo_finish_56 : decode m_Mo_finish.2.1 56 = .ok (.iload_n 3, 1) := by decide +kernel
theorem d_Mo_finish_57 : decode m_Mo_finish.2.1 57 = .ok (.iload 7, 2) := by decide +kernel
theorem d_Mo_finish_59 : decode m_Mo_finish.2.1 59 = .ok (.iadd, 1) := by decide +kernel
theorem d_Mo_finish_60 : decode m_Mo_finish.2.1 60 = .ok (.iaload, 1) := by decide +kernel
theorem d_Mo_finish_61 : decode m_Mo_finish.2.1 61 = .ok (.iconst 2, 1) := by decide +kernel
theorem d_Mo_finish_62 : decode m_Mo_finish.2.1 62 = .ok (.if_icmp .ne 23, 3) := by decide +kernel
theorem d_Mo_finish_65 : decode m_Mo_finish.2.1 65 = .ok (.aload_n 0, 1) := by decide +kernel
theorem d_Mo_finish_66 : decode m_Mo_finish.2.1 66 = .ok (.getfield 89, 3) := by decide +kernel
theorem d_Mo_finish_69 : decode m_Mo_finish.2.1 69 = .ok (.iload 4, 2) := by decide +kernel
theorem d_Mo_finish_71 : decode m_Mo_finish.2.1 71 = .ok (.iaload, 1) := by decide +kernel
theorem d_Mo_finish_72 : decode m_Mo_finish.2.1 72 = .ok (.iconst 2, 1) := by decide +kernel
theorem d_Mo_finish_73 : decode m_Mo_finish.2.1 73 = .ok (.iand, 1) := by decide +kernel
theorem d_Mo_finish_74 : decode m_Mo_finish.2.1 74 = .ok (.iconst 2, 1) := by decide +kernel
theorem d_Mo_finish_75 : decode m_Mo_finish.2.1 75 = .ok (.if_icmp .ne 10, 3) := by decide +kernel
theorem d_Mo_finish_78 : decode m_Mo_finish.2.1 78 = .ok (.iload 6, 2) := by decide +kernel
theorem d_Mo_finish_80 : decode m_Mo_finish.2.1 80 = .ok (.iconst 1, 1) := by decide +kernel
theorem d_Mo_finish_81 : decode m_Mo_finish.2.1 81 = .ok (.iadd, 1) := by decide +kernel
theorem d_Mo_finish_82 : decode m_Mo_finish.2.1 82 = .ok (.goto 5, 3) := by decide +kernel
theorem d_Mo_finish_85 : decode m_Mo_finish.2.1 85 = .ok (.iload 6, 2) := by decide +kernel
theorem d_Mo_finish_87 : decode m_Mo_finish.2.1 87 = .ok (.istore 6, 2) := by decide +kernel
theorem d_Mo_finish_89 : decode m_Mo_finish.2.1 89 = .ok (.iinc 7 1, 3) := by decide +kernel
theorem d_Mo_finish_92 : decode m_Mo_finish.2.1 92 = .ok (.goto (-83), 3) := by decide +kernel
theorem d_Mo_finish_95 : decode m_Mo_finish.2.1 95 = .ok (.iload 5, 2) := by decide +kernel
theorem d_Mo_finish_97 : decode m_Mo_finish.2.1 97 = .ok (.iload 6, 2) := by decide +kernel
theorem d_Mo_finish_99 : decode m_Mo_finish.2.1 99 = .ok (.iadd, 1) := by decide +kernel
theorem d_Mo_finish_100 : decode m_Mo_finish.2.1 100 = .ok (.iconst 3, 1) := by decide +kernel
theorem d_Mo_finish_101 : decode m_Mo_finish.2.1 101 = .ok (.if_icmp .ge 5, 3) := by decide +kernel
theorem d_Mo_finish_104 : decode m_Mo_finish.2.1 104 = .ok (.iconst 0, 1) := by decide +kernel
theorem d_Mo_finish_105 : decode m_Mo_finish.2.1 105 = .ok (.ireturn, 1) := by decide +kernel
theorem d_Mo_finish_106 : decode m_Mo_finish.2.1 106 = .ok (.aload_n 0, 1) := by decide +kernel
theorem d_Mo_finish_107 : decode m_Mo_finish.2.1 107 = .ok (.getfield 86, 3) := by decide +kernel
theorem d_Mo_finish_110 : decode m_Mo_finish.2.1 110 = .ok (.iload 4, 2) := by decide +kernel
theorem d_Mo_finish_112 : decode m_Mo_finish.2.1 112 = .ok (.iaload, 1) := by decide +kernel
theorem d_Mo_finish_113 : decode m_Mo_finish.2.1 113 = .ok (.istore 7, 2) := by decide +kernel
theorem d_Mo_finish_115 : decode m_Mo_finish.2.1 115 = .ok (.aload_n 0, 1) := by decide +kernel
theorem d_Mo_finish_116 : decode m_Mo_finish.2.1 116 = .ok (.iload_n 1, 1) := by decide +kernel
theorem d_Mo_finish_117 : decode m_Mo_finish.2.1 117 = .ok (.iload_n 2, 1) := by decide +kernel
theorem d_Mo_finish_118 : decode m_Mo_finish.2.1 118 = .ok (.iload 7, 2) := by decide +kernel
theorem d_Mo_finish_120 : decode m_Mo_finish.2.1 120 = .ok (.invokevirtual 140, 3) := by decide +kernel
theorem d_Mo_finish_123 : decode m_Mo_finish.2.1 123 = .ok (.istore 8, 2) := by decide +kernel
theorem d_Mo_finish_125 : decode m_Mo_finish.2.1 125 = .ok (.aload_n 0, 1) := by decide +kernel
theorem d_Mo_finish_126 : decode m_Mo_finish.2.1 126 = .ok (.getfield 95, 3) := by decide +kernel
theorem d_Mo_finish_129 : decode m_Mo_finish.2.1 129 = .ok (.iload 4, 2) := by decide +kernel
theorem d_Mo_finish_131 : decode m_Mo_finish.2.1 131 = .ok (.iaload, 1) := by decide +kernel
theorem d_Mo_finish_132 : decode m_Mo_finish.2.1 132 = .ok (.ifCond .lt 7, 3) := by decide +kernel
theorem d_Mo_finish_135 : decode m_Mo_finish.2.1 135 = .ok (.iconst 1, 1) := by decide +kernel
theorem d_Mo_finish_136 : decode m_Mo_finish.2.1 136 = .ok (.goto 4, 3) := by decide +kernel
theorem d_Mo_finish_139 : decode m_Mo_finish.2.1 139 = .ok (.iconst 0, 1) := by decide +kernel
theorem d_Mo_finish_140 : decode m_Mo_finish.2.1 140 = .ok (.istore 9, 2) := by decide +kernel
theorem d_Mo_finish_142 : decode m_Mo_finish.2.1 142 = .ok (.iload 5, 2) := by decide +kernel
theorem d_Mo_finish_144 : decode m_Mo_finish.2.1 144 = .ok (.ifCond .eq 8, 3) := by decide +kernel
theorem d_Mo_finish_147 : decode m_Mo_finish.2.1 147 = .ok (.iload 6, 2) := by decide +kernel
theorem d_Mo_finish_149 : decode m_Mo_finish.2.1 149 = .ok (.ifCond .ne 49, 3) := by decide +kernel
theorem d_Mo_finish_152 : decode m_Mo_finish.2.1 152 = .ok (.aload_n 0, 1) := by decide +kernel
theorem d_Mo_finish_153 : decode m_Mo_finish.2.1 153 = .ok (.getfield 83, 3) := by decide +kernel
theorem d_Mo_finish_156 : decode m_Mo_finish.2.1 156 = .ok (.iload 4, 2) := by decide +kernel
theorem d_Mo_finish_158 : decode m_Mo_finish.2.1 158 = .ok (.iload 6, 2) := by decide +kernel
theorem d_Mo_finish_160 : decode m_Mo_finish.2.1 160 = .ok (.ifCond .le 7, 3) := by decide +kernel
theorem d_Mo_finish_163 : decode m_Mo_finish.2.1 163 = .ok (.iconst 1, 1) := by decide +kernel
theorem d_Mo_finish_164 : decode m_Mo_finish.2.1 164 = .ok (.goto 4, 3) := by decide +kernel
theorem d_Mo_finish_167 : decode m_Mo_finish.2.1 167 = .ok (.iconst 0, 1) := by decide +kernel
theorem d_Mo_finish_168 : decode m_Mo_finish.2.1 168 = .ok (.iastore, 1) := by decide +kernel
theorem d_Mo_finish_169 : decode m_Mo_finish.2.1 169 = .ok (.iload 8, 2) := by decide +kernel
theorem d_Mo_finish_171 : decode m_Mo_finish.2.1 171 = .ok (.aload_n 0, 1) := by decide +kernel
theorem d_Mo_finish_172 : decode m_Mo_finish.2.1 172 = .ok (.getfield 83, 3) := by decide +kernel
theorem d_Mo_finish_175 : decode m_Mo_finish.2.1 175 = .ok (.iload 4, 2) := by decide +kernel
theorem d_Mo_finish_177 : decode m_Mo_finish.2.1 177 = .ok (.iaload, 1) := by decide +kernel
theorem d_Mo_finish_178 : decode m_Mo_finish.2.1 178 = .ok (.if_icmp .ne 29, 3) := by decide +kernel
theorem d_Mo_finish_181 : decode m_Mo_finish.2.1 181 = .ok (.iload 9, 2) := by decide +kernel
theorem d_Mo_finish_183 : decode m_Mo_finish.2.1 183 = .ok (.ifCond .ne 24, 3) := by decide +kernel
theorem d_Mo_finish_186 : decode m_Mo_finish.2.1 186 = .ok (.aload_n 0, 1) := by decide +kernel
theorem d_Mo_finish_187 : decode m_Mo_finish.2.1 187 = .ok (.getfield 95, 3) := by decide +kernel
theorem d_Mo_finish_190 : decode m_Mo_finish.2.1 190 = .ok (.iload 4, 2) := by decide +kernel
theorem d_Mo_finish_192 : decode m_Mo_finish.2.1 192 = .ok (.iload 8, 2) := by decide +kernel
theorem d_Mo_finish_194 : decode m_Mo_finish.2.1 194 = .ok (.iastore, 1) := by decide +kernel
theorem d_Mo_finish_195 : decode m_Mo_finish.2.1 195 = .ok (.goto 12, 3) := by decide +kernel
theorem d_Mo_finish_198 : decode m_Mo_finish.2.1 198 = .ok (.aload_n 0, 1) := by decide +kernel
theorem d_Mo_finish_199 : decode m_Mo_finish.2.1 199 = .ok (.getfield 83, 3) := by decide +kernel
theorem d_Mo_finish_202 : decode m_Mo_finish.2.1 202 = .ok (.iload 4, 2) := by decide +kernel
theorem d_Mo_finish_204 : decode m_Mo_finish.2.1 204 = .ok (.iload 8, 2) := by decide +kernel
theorem d_Mo_finish_206 : decode m_Mo_finish.2.1 206 = .ok (.iastore, 1) := by decide +kernel
theorem d_Mo_finish_207 : decode m_Mo_finish.2.1 207 = .ok (.iload 9, 2) := by decide +kernel
theorem d_Mo_finish_209 : decode m_Mo_finish.2.1 209 = .ok (.ifCond .eq 15, 3) := by decide +kernel
theorem d_Mo_finish_212 : decode m_Mo_finish.2.1 212 = .ok (.aload_n 0, 1) := by decide +kernel
theorem d_Mo_finish_213 : decode m_Mo_finish.2.1 213 = .ok (.getfield 95, 3) := by decide +kernel
theorem d_Mo_finish_216 : decode m_Mo_finish.2.1 216 = .ok (.iload 4, 2) := by decide +kernel
theorem d_Mo_finish_218 : decode m_Mo_finish.2.1 218 = .ok (.iaload, 1) := by decide +kernel
theorem d_Mo_finish_219 : decode m_Mo_finish.2.1 219 = .ok (.iload 8, 2) := by decide +kernel
theorem d_Mo_finish_221 : decode m_Mo_finish.2.1 221 = .ok (.if_icmp .eq 9, 3) := by decide +kernel
theorem d_Mo_finish_224 : decode m_Mo_finish.2.1 224 = .ok (.iload 7, 2) := by decide +kernel
theorem d_Mo_finish_226 : decode m_Mo_finish.2.1 226 = .ok (.iconst 5, 1) := by decide +kernel
theorem d_Mo_finish_227 : decode m_Mo_finish.2.1 227 = .ok (.if_icmp .ne 14, 3) := by decide +kernel
theorem d_Mo_finish_230 : decode m_Mo_finish.2.1 230 = .ok (.aload_n 0, 1) := by decide +kernel
theorem d_Mo_finish_231 : decode m_Mo_finish.2.1 231 = .ok (.getfield 98, 3) := by decide +kernel
theorem d_Mo_finish_234 : decode m_Mo_finish.2.1 234 = .ok (.iload 4, 2) := by decide +kernel
theorem d_Mo_finish_236 : decode m_Mo_finish.2.1 236 = .ok (.iconst 1, 1) := by decide +kernel
theorem d_Mo_finish_237 : decode m_Mo_finish.2.1 237 = .ok (.bastore, 1) := by decide +kernel
theorem d_Mo_finish_238 : decode m_Mo_finish.2.1 238 = .ok (.goto 30, 3) := by decide +kernel
theorem d_Mo_finish_241 : decode m_Mo_finish.2.1 241 = .ok (.aload_n 0, 1) := by decide +kernel
theorem d_Mo_finish_242 : decode m_Mo_finish.2.1 242 = .ok (.getfield 86, 3) := by decide +kernel
theorem d_Mo_finish_245 : decode m_Mo_finish.2.1 245 = .ok (.iload 4, 2) := by decide +kernel
theorem d_Mo_finish_247 : decode m_Mo_finish.2.1 247 = .ok (.dup2, 1) := by decide +kernel
theorem d_Mo_finish_248 : decode m_Mo_finish.2.1 248 = .ok (.iaload, 1) := by decide +kernel
theorem d_Mo_finish_249 : decode m_Mo_finish.2.1 249 = .ok (.iconst 1, 1) := by decide +kernel
theorem d_Mo_finish_250 : decode m_Mo_finish.2.1 250 = .ok (.iadd, 1) := by decide +kernel
theorem d_Mo_finish_251 : decode m_Mo_finish.2.1 251 = .ok (.iastore, 1) := by decide +kernel
theorem d_Mo_finish_252 : decode m_Mo_finish.2.1 252 = .ok (.aload_n 0, 1) := by decide +kernel
theorem d_Mo_finish_253 : decode m_Mo_finish.2.1 253 = .ok (.getfield 89, 3) := by decide +kernel
theorem d_Mo_finish_256 : decode m_Mo_finish.2.1 256 = .ok (.iload 4, 2) := by decide +kernel
theorem d_Mo_finish_258 : decode m_Mo_finish.2.1 258 = .ok (.iconst 0, 1) := by decide +kernel
theorem d_Mo_finish_259 : decode m_Mo_finish.2.1 259 = .ok (.iastore, 1) := by decide +kernel
theorem d_Mo_finish_260 : decode m_Mo_finish.2.1 260 = .ok (.aload_n 0, 1) := by decide +kernel
theorem d_Mo_finish_261 : decode m_Mo_finish.2.1 261 = .ok (.getfield 92, 3) := by decide +kernel
theorem d_Mo_finish_264 : decode m_Mo_finish.2.1 264 = .ok (.iload 4, 2) := by decide +kernel
theorem d_Mo_finish_266 : decode m_Mo_finish.2.1 266 = .ok (.iconst 0, 1) := by decide +kernel
theorem d_Mo_finish_267 : decode m_Mo_finish.2.1 267 = .ok (.iastore, 1) := by decide +kernel
theorem d_Mo_finish_268 : decode m_Mo_finish.2.1 268 = .ok (.iconst 1, 1) := by decide +kernel
theorem d_Mo_finish_269 : decode m_Mo_finish.2.1 269 = .ok (.ireturn, 1) := by decide +kernel
theorem d_Mo_look_0 : decode m_Mo_look.2.1 0 = .ok (.iconst 0, 1) := by decide +kernel
theorem d_Mo_look_1 : decode m_Mo_look.2.1 1 = .ok (.istore_n 2, 1) := by decide +kernel
theorem d_Mo_look_2 : decode m_Mo_look.2.1 2 = .ok (.iconst 0, 1) := by decide +kernel
theorem d_Mo_look_3 : decode m_Mo_look.2.1 3 = .ok (.istore_n 3, 1) := by decide +kernel
theorem d_Mo_look_4 : decode m_Mo_look.2.1 4 = .ok (.iconst 1, 1) := by decide +kernel
theorem d_Mo_look_5 : decode m_Mo_look.2.1 5 = .ok (.istore 4, 2) := by decide +kernel
theorem d_Mo_look_7 : decode m_Mo_look.2.1 7 = .ok (.iconst 4, 1) := by decide +kernel
theorem d_Mo_look_8 : decode m_Mo_look.2.1 8 = .ok (.iload_n 1, 1) := by decide +kernel
theorem d_Mo_look_9 : decode m_Mo_look.2.1 9 = .ok (.imul, 1) := by decide +kernel
theorem d_Mo_look_10 : decode m_Mo_look.2.1 10 = .ok (.istore 5, 2) := by decide +kernel
theorem d_Mo_look_12 : decode m_Mo_look.2.1 12 = .ok (.iload 5, 2) := by decide +kernel
theorem d_Mo_look_14 : decode m_Mo_look.2.1 14 = .ok (.iconst 4, 1) := by decide +kernel
theorem d_Mo_look_15 : decode m_Mo_look.2.1 15 = .ok (.iload_n 1, 1) := by decide +kernel
theorem d_Mo_look_16 : decode m_Mo_look.2.1 16 = .ok (.imul, 1) := by decide +kernel
theorem d_Mo_look_17 : decode m_Mo_look.2.1 17 = .ok (.iconst 4, 1) := by decide +kernel
theorem d_Mo_look_18 : decode m_Mo_look.2.1 18 = .ok (.iadd, 1) := by decide +kernel
theorem d_Mo_look_19 : decode m_Mo_look.2.1 19 = .ok (.if_icmp .ge 79, 3) := by decide +kernel
theorem d_Mo_look_22 : decode m_Mo_look.2.1 22 = .ok (.aload_n 0, 1) := by decide +kernel
theorem d_Mo_look_23 : decode m_Mo_look.2.1 23 = .ok (.getfield 95, 3) := by decide +kernel
theorem d_Mo_look_26 : decode m_Mo_look.2.1 26 = .ok (.iload 5, 2) := by decide +kernel
theorem d_Mo_look_28 : decode m_Mo_look.2.1 28 = .ok (.iaload, 1) := by decide +kernel
theorem d_Mo_look_29 : decode m_Mo_look.2.1 29 = .ok (.iconst 1, 1) := by decide +kernel
theorem d_Mo_look_30 : decode m_Mo_look.2.1 30 = .ok (.if_icmp .ne 9, 3) := by decide +kernel
theorem d_Mo_look_33 : decode m_Mo_look.2.1 33 = .ok (.iload_n 2, 1) := by decide +kernel
theorem d_Mo_look_34 : decode m_Mo_look.2.1 34 = .ok (.iconst 1, 1) := by decide +kernel
theorem d_Mo_look_35 : decode m_Mo_look.2.1 35 = .ok (.iadd, 1) := by decide +kernel
theorem d_Mo_look_36 : decode m_Mo_look.2.1 36 = .ok (.goto 4, 3) := by decide +kernel
theorem d_Mo_look_39 : decode m_Mo_look.2.1 39 = .ok (.iload_n 2, 1) := by decide +kernel
theorem d_Mo_look_40 : decode m_Mo_look.2.1 40 = .ok (.istore_n 2, 1) := by decide +kernel
theorem d_Mo_look_41 : decode m_Mo_look.2.1 41 = .ok (.aload_n 0, 1) := by decide +kernel
theorem d_Mo_look_42 : decode m_Mo_look.2.1 42 = .ok (.getfield 95, 3) := by decide +kernel
theorem d_Mo_look_45 : decode m_Mo_look.2.1 45 = .ok (.iload 5, 2) := by decide +kernel
theorem d_Mo_look_47 : decode m_Mo_look.2.1 47 = .ok (.iaload, 1) := by decide +kernel
theorem d_Mo_look_48 : decode m_Mo_look.2.1 48 = .ok (.ifCond .lt 9, 3) := by decide +kernel
theorem d_Mo_look_51 : decode m_Mo_look.2.1 51 = .ok (.iload_n 3, 1) := by decide +kernel
theorem d_Mo_look_52 : decode m_Mo_look.2.1 52 = .ok (.iconst 1, 1) := by decide +kernel
theorem d_Mo_look_53 : decode m_Mo_look.2.1 53 = .ok (.iadd, 1) := by decide +kernel
theorem d_Mo_look_54 : decode m_Mo_look.2.1 54 = .ok (.goto 4, 3) := by decide +kernel
theorem d_Mo_look_57 : decode m_Mo_look.2.1 57 = .ok (.iload_n 3, 1) := by decide +kernel
theorem d_Mo_look_58 : decode m_Mo_look.2.1 58 = .ok (.istore_n 3, 1) := by decide +kernel
theorem d_Mo_look_59 : decode m_Mo_look.2.1 59 = .ok (.iload 4, 2) := by decide +kernel
theorem d_Mo_look_61 : decode m_Mo_look.2.1 61 = .ok (.ifCond .eq 28, 3) := by decide +kernel
theorem d_Mo_look_64 : decode m_Mo_look.2.1 64 = .ok (.aload_n 0, 1) := by decide +kernel
theorem d_Mo_look_65 : decode m_Mo_look.2.1 65 = .ok (.getfield 95, 3) := by decide +kernel
theorem d_Mo_look_68 : decode m_Mo_look.2.1 68 = .ok (.iload 5, 2) := by decide +kernel
theorem d_Mo_look_70 : decode m_Mo_look.2.1 70 = .ok (.iaload, 1) := by decide +kernel
theorem d_Mo_look_71 : decode m_Mo_look.2.1 71 = .ok (.iconst 1, 1) := by decide +kernel
theorem d_Mo_look_72 : decode m_Mo_look.2.1 72 = .ok (.if_icmp .ne 13, 3) := by decide +kernel
theorem d_Mo_look_75 : decode m_Mo_look.2.1 75 = .ok (.aload_n 0, 1) := by decide +kernel
theorem d_Mo_look_76 : decode m_Mo_look.2.1 76 = .ok (.getfield 77, 3) := by decide +kernel
theorem d_Mo_look_79 : decode m_Mo_look.2.1 79 = .ok (.iload 5, 2) := by decide +kernel
theorem d_Mo_look_81 : decode m_Mo_look.2.1 81 = .ok (.iaload, 1) := by decide +kernel
theorem d_Mo_look_82 : decode m_Mo_look.2.1 82 = .ok (.ifCond .lt 7, 3) := by decide +kernel
theorem d_Mo_look_85 : decode m_Mo_look.2.1 85 = .ok (.iconst 1, 1) := by decide +kernel
theorem d_Mo_look_86 : decode m_Mo_look.2.1 86 = .ok (.goto 4, 3) := by decide +kernel
theorem d_Mo_look_89 : decode m_Mo_look.2.1 89 = .ok (.iconst 0, 1) := by decide +kernel
theorem d_Mo_look_90 : decode m_Mo_look.2.1 90 = .ok (.istore 4, 2) := by decide +kernel
theorem d_Mo_look_92 : decode m_Mo_look.2.1 92 = .ok (.iinc 5 1, 3) := by decide +kernel
theorem d_Mo_look_95 : decode m_Mo_look.2.1 95 = .ok (.goto (-83), 3) := by decide +kernel
theorem d_Mo_look_98 : decode m_Mo_look.2.1 98 = .ok (.iconst 0, 1) := by decide +kernel
theorem d_Mo_look_99 : decode m_Mo_look.2.1 99 = .ok (.istore 5, 2) := by decide +kernel
theorem d_Mo_look_101 : decode m_Mo_look.2.1 101 = .ok (.iload 5, 2) := by decide +kernel
theorem d_Mo_look_103 : decode m_Mo_look.2.1 103 = .ok (.iconst 4, 1) := by decide +kernel
theorem d_Mo_look_104 : decode m_Mo_look.2.1 104 = .ok (.if_icmp .ge 59, 3) := by decide +kernel
theorem d_Mo_look_107 : decode m_Mo_look.2.1 107 = .ok (.iload_n 2, 1) := by decide +kernel
theorem d_Mo_look_108 : decode m_Mo_look.2.1 108 = .ok (.iconst 3, 1) := by decide +kernel
theorem d_Mo_look_109 : decode m_Mo_look.2.1 109 = .ok (.if_icmp .lt 54, 3) := by decide +kernel
theorem d_Mo_look_112 : decode m_Mo_look.2.1 112 = .ok (.aload_n 0, 1) := by decide +kernel
theorem d_Mo_look_113 : decode m_Mo_look.2.1 113 = .ok (.getfield 80, 3) := by decide +kernel
theorem d_Mo_look_116 : decode m_Mo_look.2.1 116 = .ok (.iconst 4, 1) := by decide +kernel
theorem d_Mo_look_117 : decode m_Mo_look.2.1 117 = .ok (.iload_n 1, 1) := by decide +kernel
theorem d_Mo_look_118 : decode m_Mo_look.2.1 118 = .ok (.imul, 1) := by decide +kernel
theorem d_Mo_look_119 : decode m_Mo_look.2.1 119 = .ok (.iload 5, 2) := by decide +kernel
theorem d_Mo_look_121 : decode m_Mo_look.2.1 121 = .ok (.iadd, 1) := by decide +kernel
theorem d_Mo_look_122 : decode m_Mo_look.2.1 122 = .ok (.baload, 1) := by decide +kernel
theorem d_Mo_look_123 : decode m_Mo_look.2.1 123 = .ok (.ifCond .ne 34, 3) := by decide +kernel
theorem d_Mo_look_126 : decode m_Mo_look.2.1 126 = .ok (.aload_n 0, 1) := by decide +kernel
theorem d_Mo_look_127 : decode m_Mo_look.2.1 127 = .ok (.getfield 80, 3) := by decide +kernel
theorem d_Mo_look_130 : decode m_Mo_look.2.1 130 = .ok (.iconst 4, 1) := by decide +kernel
theorem d_Mo_look_131 : decode m_Mo_look.2.1 131 = .ok (.iload_n 1, 1) := by decide +kernel
theorem d_Mo_look_132 : decode m_Mo_look.2.1 132 = .ok (.imul, 1) := by decide +kernel
theorem d_Mo_look_133 : decode m_Mo_look.2.1 133 = .ok (.iload 5, 2) := by decide +kernel
theorem d_Mo_look_135 : decode m_Mo_look.2.1 135 = .ok (.iadd, 1) := by decide +kernel
theorem d_Mo_look_136 : decode m_Mo_look.2.1 136 = .ok (.iconst 1, 1) := by decide +kernel
theorem d_Mo_look_137 : decode m_Mo_look.2.1 137 = .ok (.bastore, 1) := by decide +kernel
theorem d_Mo_look_138 : decode m_Mo_look.2.1 138 = .ok (.aload_n 0, 1) := by decide +kernel
theorem d_Mo_look_139 : decode m_Mo_look.2.1 139 = .ok (.getfield 83, 3) := by decide +kernel
theorem d_Mo_look_142 : decode m_Mo_look.2.1 142 = .ok (.iconst 4, 1) := by decide +kernel
theorem d_Mo_look_143 : decode m_Mo_look.2.1 143 = .ok (.iload_n 1, 1) := by decide +kernel
theorem d_Mo_look_144 : decode m_Mo_look.2.1 144 = .ok (.imul, 1) := by decide +kernel
theorem d_Mo_look_145 : decode m_Mo_look.2.1 145 = .ok (.iload 5, 2) := by decide +kernel
theorem d_Mo_look_147 : decode m_Mo_look.2.1 147 = .ok (.iadd, 1) := by decide +kernel
theorem d_Mo_look_148 : decode m_Mo_look.2.1 148 = .ok (.iconst 0, 1) := by decide +kernel
theorem d_Mo_look_149 : decode m_Mo_look.2.1 149 = .ok (.iastore, 1) := by decide +kernel
theorem d_Mo_look_150 : decode m_Mo_look.2.1 150 = .ok (.aload_n 0, 1) := by decide +kernel
theorem d_Mo_look_151 : decode m_Mo_look.2.1 151 = .ok (.iload 5, 2) := by decide +kernel
theorem d_Mo_look_153 : decode m_Mo_look.2.1 153 = .ok (.putfield 165, 3) := by decide +kernel
theorem d_Mo_look_156 : decode m_Mo_look.2.1 156 = .ok (.return_, 1) := by decide +kernel
theorem d_Mo_look_157 : decode m_Mo_look.2.1 157 = .ok (.iinc 5 1, 3) := by decide +kernel
theorem d_Mo_look_160 : decode m_Mo_look.2.1 160 = .ok (.goto (-59), 3) := by decide +kernel
theorem d_Mo_look_163 : decode m_Mo_look.2.1 163 = .ok (.iload_n 3, 1) := by decide +kernel
theorem d_Mo_look_164 : decode m_Mo_look.2.1 164 = .ok (.iconst 4, 1) := by decide +kernel
theorem d_Mo_look_165 : decode m_Mo_look.2.1 165 = .ok (.if_icmp .ne 13, 3) := by decide +kernel
theorem d_Mo_look_168 : decode m_Mo_look.2.1 168 = .ok (.iload 4, 2) := by decide +kernel
theorem d_Mo_look_170 : decode m_Mo_look.2.1 170 = .ok (.ifCond .eq 8, 3) := by decide +kernel
theorem d_Mo_look_173 : decode m_Mo_look.2.1 173 = .ok (.aload_n 0, 1) := by decide +kernel
theorem d_Mo_look_174 : decode m_Mo_look.2.1 174 = .ok (.iload_n 1, 1) := by decide +kernel
theorem d_Mo_look_175 : decode m_Mo_look.2.1 175 = .ok (.invokevirtual 239, 3) := by decide +kernel
theorem d_Mo_look_178 : decode m_Mo_look.2.1 178 = .ok (.return_, 1) := by decide +kernel
theorem d_Mo_commit_0 : decode m_Mo_commit.2.1 0 = .ok (.iconst 1, 1) := by decide +kernel
theorem d_Mo_commit_1 : decode m_Mo_commit.2.1 1 = .ok (.istore_n 2, 1) := by decide +kernel
theorem d_Mo_commit_2 : decode m_Mo_commit.2.1 2 = .ok (.iload_n 2, 1) := by decide +kernel
theorem d_Mo_commit_3 : decode m_Mo_commit.2.1 3 = .ok (.sipush 255, 3) := by decide +kernel
theorem d_Mo_commit_6 : decode m_Mo_commit.2.1 6 = .ok (.if_icmp .gt 128, 3) := by decide +kernel
theorem d_Mo_commit_9 : decode m_Mo_commit.2.1 9 = .ok (.iconst 0, 1) := by decide +kernel
theorem d_Mo_commit_10 : decode m_Mo_commit.2.1 10 = .ok (.istore_n 3, 1) := by decide +kernel
theorem d_Mo_commit_11 : decode m_Mo_commit.2.1 11 = .ok (.iconst 4, 1) := by decide +kernel
theorem d_Mo_commit_12 : decode m_Mo_commit.2.1 12 = .ok (.iload_n 1, 1) := by decide +kernel
theorem d_Mo_commit_13 : decode m_Mo_commit.2.1 13 = .ok (.imul, 1) := by decide +kernel
theorem d_Mo_commit_14 : decode m_Mo_commit.2.1 14 = .ok (.istore 4, 2) := by decide +kernel
theorem d_Mo_commit_16 : decode m_Mo_commit.2.1 16 = .ok (.iload 4, 2) := by decide +kernel
theorem d_Mo_commit_18 : decode m_Mo_commit.2.1 18 = .ok (.iconst 4, 1) := by decide +kernel
theorem d_Mo_commit_19 : decode m_Mo_commit.2.1 19 = .ok (.iload_n 1, 1) := by decide +kernel
theorem d_Mo_commit_20 : decode m_Mo_commit.2.1 20 = .ok (.imul, 1) := by decide +kernel
theorem d_Mo_commit_21 : decode m_Mo_commit.2.1 21 = .ok (.iconst 4, 1) := by decide +kernel
theorem d_Mo_commit_22 : decode m_Mo_commit.2.1 22 = .ok (.iadd, 1) := by decide +kernel
theorem d_Mo_commit_23 : decode m_Mo_commit.2.1 23 = .ok (.if_icmp .ge 59, 3) := by decide +kernel
theorem d_Mo_commit_26 : decode m_Mo_commit.2.1 26 = .ok (.iload_n 3, 1) := by decide +kernel
theorem d_Mo_commit_27 : decode m_Mo_commit.2.1 27 = .ok (.ifCond .ne 43, 3) := by decide +kernel
theorem d_Mo_commit_30 : decode m_Mo_commit.2.1 30 = .ok (.aload_n 0, 1) := by decide +kernel
theorem d_Mo_commit_31 : decode m_Mo_commit.2.1 31 = .ok (.getfield 95, 3) := by decide +kernel
theorem d_Mo_commit_34 : decode m_Mo_commit.2.1 34 = .ok (.iload 4, 2) := by decide +kernel
theorem d_Mo_commit_36 : decode m_Mo_commit.2.1 36 = .ok (.iaload, 1) := by decide +kernel
theorem d_Mo_commit_37 : decode m_Mo_commit.2.1 37 = .ok (.iconst 1, 1) := by decide +kernel
theorem d_Mo_commit_38 : decode m_Mo_commit.2.1 38 = .ok (.if_icmp .ne 36, 3) := by decide +kernel
theorem d_Mo_commit_41 : decode m_Mo_commit.2.1 41 = .ok (.aload_n 0, 1) := by decide +kernel
theorem d_Mo_commit_42 : decode m_Mo_commit.2.1 42 = .ok (.getfield 77, 3) := by decide +kernel
theorem d_Mo_commit_45 : decode m_Mo_commit.2.1 45 = .ok (.iload 4, 2) := by decide +kernel
theorem d_Mo_commit_47 : decode m_Mo_commit.2.1 47 = .ok (.iaload, 1) := by decide +kernel
theorem d_Mo_commit_48 : decode m_Mo_commit.2.1 48 = .ok (.sipush 255, 3) := by decide +kernel
theorem d_Mo_commit_51 : decode m_Mo_commit.2.1 51 = .ok (.iand, 1) := by decide +kernel
theorem d_Mo_commit_52 : decode m_Mo_commit.2.1 52 = .ok (.iload_n 2, 1) := by decide +kernel
theorem d_Mo_commit_53 : decode m_Mo_commit.2.1 53 = .ok (.if_icmp .eq 17, 3) := by decide +kernel
theorem d_Mo_commit_56 : decode m_Mo_commit.2.1 56 = .ok (.aload_n 0, 1) := by decide +kernel
theorem d_Mo_commit_57 : decode m_Mo_commit.2.1 57 = .ok (.getfield 77, 3) := by decide +kernel
theorem d_Mo_commit_60 : decode m_Mo_commit.2.1 60 = .ok (.iload 4, 2) := by decide +kernel
theorem d_Mo_commit_62 : decode m_Mo_commit.2.1 62 = .ok (.iaload, 1) := by decide +kernel
theorem d_Mo_commit_63 : decode m_Mo_commit.2.1 63 = .ok (.bipush 8, 2) := by decide +kernel
theorem d_Mo_commit_65 : decode m_Mo_commit.2.1 65 = .ok (.ishr, 1) := by decide +kernel
theorem d_Mo_commit_66 : decode m_Mo_commit.2.1 66 = .ok (.iload_n 2, 1) := by decide +kernel
theorem d_Mo_commit_67 : decode m_Mo_commit.2.1 67 = .ok (.if_icmp .ne 7, 3) := by decide +kernel
theorem d_Mo_commit_70 : decode m_Mo_commit.2.1 70 = .ok (.iconst 1, 1) := by decide +kernel
theorem d_Mo_commit_71 : decode m_Mo_commit.2.1 71 = .ok (.goto 4, 3) := by decide +kernel
theorem d_Mo_commit_74 : decode m_Mo_commit.2.1 74 = .ok (.iconst 0, 1) := by decide +kernel
theorem d_Mo_commit_75 : decode m_Mo_commit.2.1 75 = .ok (.istore_n 3, 1) := by decide +kernel
theorem d_Mo_commit_76 : decode m_Mo_commit.2.1 76 = .ok (.iinc 4 1, 3) := by decide +kernel
theorem d_Mo_commit_79 : decode m_Mo_commit.2.1 79 = .ok (.goto (-63), 3) := by decide +kernel
theorem d_Mo_commit_82 : decode m_Mo_commit.2.1 82 = .ok (.iload_n 3, 1) := by decide +kernel
theorem d_Mo_commit_83 : decode m_Mo_commit.2.1 83 = .ok (.ifCond .eq 45, 3) := by decide +kernel
theorem d_Mo_commit_86 : decode m_Mo_commit.2.1 86 = .ok (.aload_n 0, 1) := by decide +kernel
theorem d_Mo_commit_87 : decode m_Mo_commit.2.1 87 = .ok (.iload_n 1, 1) := by decide +kernel
theorem d_Mo_commit_88 : decode m_Mo_commit.2.1 88 = .ok (.iload_n 2, 1) := by decide +kernel
theorem d_Mo_commit_89 : decode m_Mo_commit.2.1 89 = .ok (.invokevirtual 143, 3) := by decide +kernel
theorem d_Mo_commit_92 : decode m_Mo_commit.2.1 92 = .ok (.ifCond .ne 36, 3) := by decide +kernel
theorem d_Mo_commit_95 : decode m_Mo_commit.2.1 95 = .ok (.aload_n 0, 1) := by decide +kernel
theorem d_Mo_commit_96 : decode m_Mo_commit.2.1 96 = .ok (.getfield 31, 3) := by decide +kernel
theorem d_Mo_commit_99 : decode m_Mo_commit.2.1 99 = .ok (.bipush 40, 2) := by decide +kernel
theorem d_Mo_commit_101 : decode m_Mo_commit.2.1 101 = .ok (.iload_n 1, 1) := by decide +kernel
theorem d_Mo_commit_102 : decode m_Mo_commit.2.1 102 = .ok (.imul, 1) := by decide +kernel
theorem d_Mo_commit_103 : decode m_Mo_commit.2.1 103 = .ok (.aload_n 0, 1) := by decide +kernel
theorem d_Mo_commit_104 : decode m_Mo_commit.2.1 104 = .ok (.getfield 28, 3) := by decide +kernel
theorem d_Mo_commit_107 : decode m_Mo_commit.2.1 107 = .ok (.iload_n 1, 1) := by decide +kernel
theorem d_Mo_commit_108 : decode m_Mo_commit.2.1 108 = .ok (.iaload, 1) := by decide +kernel
theorem d_Mo_commit_109 : decode m_Mo_commit.2.1 109 = .ok (.iadd, 1) := by decide +kernel
theorem d_Mo_commit_110 : decode m_Mo_commit.2.1 110 = .ok (.iload_n 2, 1) := by decide +kernel
theorem d_Mo_commit_111 : decode m_Mo_commit.2.1 111 = .ok (.iastore, 1) := by decide +kernel
theorem d_Mo_commit_112 : decode m_Mo_commit.2.1 112 = .ok (.aload_n 0, 1) := by decide +kernel
theorem d_Mo_commit_113 : decode m_Mo_commit.2.1 113 = .ok (.getfield 28, 3) := by decide +kernel
theorem d_Mo_commit_116 : decode m_Mo_commit.2.1 116 = .ok (.iload_n 1, 1) := by decide +kernel
theorem d_Mo_commit_117 : decode m_Mo_commit.2.1 117 = .ok (.dup2, 1) := by decide +kernel
theorem d_Mo_commit_118 : decode m_Mo_commit.2.1 118 = .ok (.iaload, 1) := by decide +kernel
theorem d_Mo_commit_119 : decode m_Mo_commit.2.1 119 = .ok (.iconst 1, 1) := by decide +kernel
theorem d_Mo_commit_120 : decode m_Mo_commit.2.1 120 = .ok (.iadd, 1) := by decide +kernel
theorem d_Mo_commit_121 : decode m_Mo_commit.2.1 121 = .ok (.iastore, 1) := by decide +kernel
theorem d_Mo_commit_122 : decode m_Mo_commit.2.1 122 = .ok (.aload_n 0, 1) := by decide +kernel
theorem d_Mo_commit_123 : decode m_Mo_commit.2.1 123 = .ok (.iload_n 1, 1) := by decide +kernel
theorem d_Mo_commit_124 : decode m_Mo_commit.2.1 124 = .ok (.iload_n 2, 1) := by decide +kernel
theorem d_Mo_commit_125 : decode m_Mo_commit.2.1 125 = .ok (.invokevirtual 242, 3) := by decide +kernel
theorem d_Mo_commit_128 : decode m_Mo_commit.2.1 128 = .ok (.iinc 2 1, 3) := by decide +kernel
theorem d_Mo_commit_131 : decode m_Mo_commit.2.1 131 = .ok (.goto (-129), 3) := by decide +kernel
theorem d_Mo_commit_134 : decode m_Mo_commit.2.1 134 = .ok (.aload_n 0, 1) := by decide +kernel
theorem d_Mo_commit_135 : decode m_Mo_commit.2.1 135 = .ok (.iload_n 1, 1) := by decide +kernel
theorem d_Mo_commit_136 : decode m_Mo_commit.2.1 136 = .ok (.aload_n 0, 1) := by decide +kernel
theorem d_Mo_commit_137 : decode m_Mo_commit.2.1 137 = .ok (.getfield 19, 3) := by decide +kernel
theorem d_Mo_commit_140 : decode m_Mo_commit.2.1 140 = .ok (.iload_n 1, 1) := by decide +kernel
theorem d_Mo_commit_141 : decode m_Mo_commit.2.1 141 = .ok (.iaload, 1) := by decide +kernel
theorem d_Mo_commit_142 : decode m_Mo_commit.2.1 142 = .ok (.iconst 1, 1) := by decide +kernel
theorem d_Mo_commit_143 : decode m_Mo_commit.2.1 143 = .ok (.iadd, 1) := by decide +kernel
theorem d_Mo_commit_144 : decode m_Mo_commit.2.1 144 = .ok (.invokevirtual 193, 3) := by decide +kernel
theorem d_Mo_commit_147 : decode m_Mo_commit.2.1 147 = .ok (.return_, 1) := by decide +kernel
theorem d_Mo_unqueue_0 : decode m_Mo_unqueue.2.1 0 = .ok (.iconst 0, 1) := by decide +kernel
theorem d_Mo_unqueue_1 : decode m_Mo_unqueue.2.1 1 = .ok (.istore_n 3, 1) := by decide +kernel
theorem d_Mo_unqueue_2 : decode m_Mo_unqueue.2.1 2 = .ok (.iconst 0, 1) := by decide +kernel
theorem d_Mo_unqueue_3 : decode m_Mo_unqueue.2.1 3 = .ok (.istore 4, 2) := by decide +kernel
theorem d_Mo_unqueue_5 : decode m_Mo_unqueue.2.1 5 = .ok (.iload 4, 2) := by decide +kernel
theorem d_Mo_unqueue_7 : decode m_Mo_unqueue.2.1 7 = .ok (.aload_n 0, 1) := by decide +kernel
theorem d_Mo_unqueue_8 : decode m_Mo_unqueue.2.1 8 = .ok (.getfield 22, 3) := by decide +kernel
theorem d_Mo_unqueue_11 : decode m_Mo_unqueue.2.1 11 = .ok (.iload_n 1, 1) := by decide +kernel
theorem d_Mo_unqueue_12 : decode m_Mo_unqueue.2.1 12 = .ok (.iaload, 1) := by decide +kernel
theorem d_Mo_unqueue_13 : decode m_Mo_unqueue.2.1 13 = .ok (.if_icmp .ge 45, 3) := by decide +kernel
theorem d_Mo_unqueue_16 : decode m_Mo_unqueue.2.1 16 = .ok (.aload_n 0, 1) := by decide +kernel
theorem d_Mo_unqueue_17 : decode m_Mo_unqueue.2.1 17 = .ok (.getfield 25, 3) := by decide +kernel
theorem d_Mo_unqueue_20 : decode m_Mo_unqueue.2.1 20 = .ok (.bipush 12, 2) := by decide +kernel
theorem d_Mo_unqueue_22 : decode m_Mo_unqueue.2.1 22 = .ok (.iload_n 1, 1) := by decide +kernel
theorem d_Mo_unqueue_23 : decode m_Mo_unqueue.2.1 23 = .ok (.imul, 1) := by decide +kernel
theorem d_Mo_unqueue_24 : decode m_Mo_unqueue.2.1 24 = .ok (.iload 4, 2) := by decide +kernel
theorem d_Mo_unqueue_26 : decode m_Mo_unqueue.2.1 26 = .ok (.iadd, 1) := by decide +kernel
theorem d_Mo_unqueue_27 : decode m_Mo_unqueue.2.1 27 = .ok (.iaload, 1) := by decide +kernel
theorem d_Mo_unqueue_28 : decode m_Mo_unqueue.2.1 28 = .ok (.istore 5, 2) := by decide +kernel
theorem d_Mo_unqueue_30 : decode m_Mo_unqueue.2.1 30 = .ok (.iload 5, 2) := by decide +kernel
theorem d_Mo_unqueue_32 : decode m_Mo_unqueue.2.1 32 = .ok (.iload_n 2, 1) := by decide +kernel
theorem d_Mo_unqueue_33 : decode m_Mo_unqueue.2.1 33 = .ok (.if_icmp .eq 19, 3) := by decide +kernel
theorem d_Mo_unqueue_36 : decode m_Mo_unqueue.2.1 36 = .ok (.aload_n 0, 1) := by decide +kernel
theorem d_Mo_unqueue_37 : decode m_Mo_unqueue.2.1 37 = .ok (.getfield 25, 3) := by decide +kernel
theorem d_Mo_unqueue_40 : decode m_Mo_unqueue.2.1 40 = .ok (.bipush 12, 2) := by decide +kernel
theorem d_Mo_unqueue_42 : decode m_Mo_unqueue.2.1 42 = .ok (.iload_n 1, 1) := by decide +kernel
theorem d_Mo_unqueue_43 : decode m_Mo_unqueue.2.1 43 = .ok (.imul, 1) := by decide +kernel
theorem d_Mo_unqueue_44 : decode m_Mo_unqueue.2.1 44 = .ok (.iload_n 3, 1) := by decide +kernel
theorem d_Mo_unqueue_45 : decode m_Mo_unqueue.2.1 45 = .ok (.iadd, 1) := by decide +kernel
theorem d_Mo_unqueue_46 : decode m_Mo_unqueue.2.1 46 = .ok (.iload 5, 2) := by decide +kernel
theorem d_Mo_unqueue_48 : decode m_Mo_unqueue.2.1 48 = .ok (.iastore, 1) := by decide +kernel
theorem d_Mo_unqueue_49 : decode m_Mo_unqueue.2.1 49 = .ok (.iinc 3 1, 3) := by decide +kernel
theorem d_Mo_unqueue_52 : decode m_Mo_unqueue.2.1 52 = .ok (.iinc 4 1, 3) := by decide +kernel
theorem d_Mo_unqueue_55 : decode m_Mo_unqueue.2.1 55 = .ok (.goto (-50), 3) := by decide +kernel
theorem d_Mo_unqueue_58 : decode m_Mo_unqueue.2.1 58 = .ok (.aload_n 0, 1) := by decide +kernel
theorem d_Mo_unqueue_59 : decode m_Mo_unqueue.2.1 59 = .ok (.getfield 22, 3) := by decide +kernel
theorem d_Mo_unqueue_62 : decode m_Mo_unqueue.2.1 62 = .ok (.iload_n 1, 1) := by decide +kernel
theorem d_Mo_unqueue_63 : decode m_Mo_unqueue.2.1 63 = .ok (.iload_n 3, 1) := by decide +kernel
theorem d_Mo_unqueue_64 : decode m_Mo_unqueue.2.1 64 = .ok (.iastore, 1) := by decide +kernel
theorem d_Mo_unqueue_65 : decode m_Mo_unqueue.2.1 65 = .ok (.return_, 1) := by decide +kernel
theorem d_Mo_enter_0 : decode m_Mo_enter.2.1 0 = .ok (.aload_n 0, 1) := by decide +kernel
theorem d_Mo_enter_1 : decode m_Mo_enter.2.1 1 = .ok (.getfield 19, 3) := by decide +kernel
theorem d_Mo_enter_4 : decode m_Mo_enter.2.1 4 = .ok (.iload_n 1, 1) := by decide +kernel
theorem d_Mo_enter_5 : decode m_Mo_enter.2.1 5 = .ok (.iload_n 2, 1) := by decide +kernel
theorem d_Mo_enter_6 : decode m_Mo_enter.2.1 6 = .ok (.iastore, 1) := by decide +kernel
theorem d_Mo_enter_7 : decode m_Mo_enter.2.1 7 = .ok (.aload_n 0, 1) := by decide +kernel
theorem d_Mo_enter_8 : decode m_Mo_enter.2.1 8 = .ok (.iconst (-1), 1) := by decide +kernel
theorem d_Mo_enter_9 : decode m_Mo_enter.2.1 9 = .ok (.putfield 165, 3) := by decide +kernel
theorem d_Mo_enter_12 : decode m_Mo_enter.2.1 12 = .ok (.aload_n 0, 1) := by decide +kernel
theorem d_Mo_enter_13 : decode m_Mo_enter.2.1 13 = .ok (.iconst 4, 1) := by decide +kernel
theorem d_Mo_enter_14 : decode m_Mo_enter.2.1 14 = .ok (.putfield 168, 3) := by decide +kernel
theorem d_Mo_enter_17 : decode m_Mo_enter.2.1 17 = .ok (.iload_n 2, 1) := by decide +kernel
theorem d_Mo_enter_18 : decode m_Mo_enter.2.1 18 = .ok (.iconst 3, 1) := by decide +kernel
theorem d_Mo_enter_19 : decode m_Mo_enter.2.1 19 = .ok (.if_icmp .le 4, 3) := by decide +kernel
theorem d_Mo_enter_22 : decode m_Mo_enter.2.1 22 = .ok (.return_, 1) := by decide +kernel
theorem d_Mo_enter_23 : decode m_Mo_enter.2.1 23 = .ok (.iconst 4, 1) := by decide +kernel
theorem d_Mo_enter_24 : decode m_Mo_enter.2.1 24 = .ok (.iload_n 1, 1) := by decide +kernel
theorem d_Mo_enter_25 : decode m_Mo_enter.2.1 25 = .ok (.imul, 1) := by decide +kernel
theorem d_Mo_enter_26 : decode m_Mo_enter.2.1 26 = .ok (.istore_n 3, 1) := by decide +kernel
theorem d_Mo_enter_27 : decode m_Mo_enter.2.1 27 = .ok (.iload_n 3, 1) := by decide +kernel
theorem d_Mo_enter_28 : decode m_Mo_enter.2.1 28 = .ok (.iconst 4, 1) := by decide +kernel
theorem d_Mo_enter_29 : decode m_Mo_enter.2.1 29 = .ok (.iload_n 1, 1) := by decide +kernel
theorem d_Mo_enter_30 : decode m_Mo_enter.2.1 30 = .ok (.imul, 1) := by decide +kernel
theorem d_Mo_enter_31 : decode m_Mo_enter.2.1 31 = .ok (.iconst 4, 1) := by decide +kernel
theorem d_Mo_enter_32 : decode m_Mo_enter.2.1 32 = .ok (.iadd, 1) := by decide +kernel
theorem d_Mo_enter_33 : decode m_Mo_enter.2.1 33 = .ok (.if_icmp .ge 65, 3) := by decide +kernel
theorem d_Mo_enter_36 : decode m_Mo_enter.2.1 36 = .ok (.aload_n 0, 1) := by decide +kernel
theorem d_Mo_enter_37 : decode m_Mo_enter.2.1 37 = .ok (.getfield 77, 3) := by decide +kernel
theorem d_Mo_enter_40 : decode m_Mo_enter.2.1 40 = .ok (.iload_n 3, 1) := by decide +kernel
theorem d_Mo_enter_41 : decode m_Mo_enter.2.1 41 = .ok (.iconst (-1), 1) := by decide +kernel
theorem d_Mo_enter_42 : decode m_Mo_enter.2.1 42 = .ok (.iastore, 1) := by decide +kernel
theorem d_Mo_enter_43 : decode m_Mo_enter.2.1 43 = .ok (.aload_n 0, 1) := by decide +kernel
theorem d_Mo_enter_44 : decode m_Mo_enter.2.1 44 = .ok (.getfield 80, 3) := by decide +kernel
theorem d_Mo_enter_47 : decode m_Mo_enter.2.1 47 = .ok (.iload_n 3, 1) := by decide +kernel
theorem d_Mo_enter_48 : decode m_Mo_enter.2.1 48 = .ok (.iconst 0, 1) := by decide +kernel
theorem d_Mo_enter_49 : decode m_Mo_enter.2.1 49 = .ok (.bastore, 1) := by decide +kernel
theorem d_Mo_enter_50 : decode m_Mo_enter.2.1 50 = .ok (.aload_n 0, 1) := by decide +kernel
theorem d_Mo_enter_51 : decode m_Mo_enter.2.1 51 = .ok (.getfield 83, 3) := by decide +kernel
theorem d_Mo_enter_54 : decode m_Mo_enter.2.1 54 = .ok (.iload_n 3, 1) := by decide +kernel
theorem d_Mo_enter_55 : decode m_Mo_enter.2.1 55 = .ok (.iconst 0, 1) := by decide +kernel
theorem d_Mo_enter_56 : decode m_Mo_enter.2.1 56 = .ok (.iastore, 1) := by decide +kernel
theorem d_Mo_enter_57 : decode m_Mo_enter.2.1 57 = .ok (.aload_n 0, 1) := by decide +kernel
theorem d_Mo_enter_58 : decode m_Mo_enter.2.1 58 = .ok (.getfield 86, 3) := by decide +kernel
theorem d_Mo_enter_61 : decode m_Mo_enter.2.1 61 = .ok (.iload_n 3, 1) := by decide +kernel
theorem d_Mo_enter_62 : decode m_Mo_enter.2.1 62 = .ok (.iconst 0, 1) := by decide +kernel
theorem d_Mo_enter_63 : decode m_Mo_enter.2.1 63 = .ok (.iastore, 1) := by decide +kernel
theorem d_Mo_enter_64 : decode m_Mo_enter.2.1 64 = .ok (.aload_n 0, 1) := by decide +kernel
theorem d_Mo_enter_65 : decode m_Mo_enter.2.1 65 = .ok (.getfield 89, 3) := by decide +kernel
theorem d_Mo_enter_68 : decode m_Mo_enter.2.1 68 = .ok (.iload_n 3, 1) := by decide +kernel
theorem d_Mo_enter_69 : decode m_Mo_enter.2.1 69 = .ok (.iconst 0, 1) := by decide +kernel
theorem d_Mo_enter_70 : decode m_Mo_enter.2.1 70 = .ok (.iastore, 1) := by decide +kernel
theorem d_Mo_enter_71 : decode m_Mo_enter.2.1 71 = .ok (.aload_n 0, 1) := by decide +kernel
theorem d_Mo_enter_72 : decode m_Mo_enter.2.1 72 = .ok (.getfield 92, 3) := by decide +kernel
theorem d_Mo_enter_75 : decode m_Mo_enter.2.1 75 = .ok (.iload_n 3, 1) := by decide +kernel
theorem d_Mo_enter_76 : decode m_Mo_enter.2.1 76 = .ok (.iconst 0, 1) := by decide +kernel
theorem d_Mo_enter_77 : decode m_Mo_enter.2.1 77 = .ok (.iastore, 1) := by decide +kernel
theorem d_Mo_enter_78 : decode m_Mo_enter.2.1 78 = .ok (.aload_n 0, 1) := by decide +kernel
theorem d_Mo_enter_79 : decode m_Mo_enter.2.1 79 = .ok (.getfield 95, 3) := by decide +kernel
theorem d_Mo_enter_82 : decode m_Mo_enter.2.1 82 = .ok (.iload_n 3, 1) := by decide +kernel
theorem d_Mo_enter_83 : decode m_Mo_enter.2.1 83 = .ok (.iconst (-1), 1) := by decide +kernel
theorem d_Mo_enter_84 : decode m_Mo_enter.2.1 84 = .ok (.iastore, 1) := by decide +kernel
theorem d_Mo_enter_85 : decode m_Mo_enter.2.1 85 = .ok (.aload_n 0, 1) := by decide +kernel
theorem d_Mo_enter_86 : decode m_Mo_enter.2.1 86 = .ok (.getfield 98, 3) := by decide +kernel
theorem d_Mo_enter_89 : decode m_Mo_enter.2.1 89 = .ok (.iload_n 3, 1) := by decide +kernel
theorem d_Mo_enter_90 : decode m_Mo_enter.2.1 90 = .ok (.iconst 0, 1) := by decide +kernel
theorem d_Mo_enter_91 : decode m_Mo_enter.2.1 91 = .ok (.bastore, 1) := by decide +kernel
theorem d_Mo_enter_92 : decode m_Mo_enter.2.1 92 = .ok (.iinc 3 1, 3) := by decide +kernel
theorem d_Mo_enter_95 : decode m_Mo_enter.2.1 95 = .ok (.goto (-68), 3) := by decide +kernel
theorem d_Mo_enter_98 : decode m_Mo_enter.2.1 98 = .ok (.aload_n 0, 1) := by decide +kernel
theorem d_Mo_enter_99 : decode m_Mo_enter.2.1 99 = .ok (.getfield 22, 3) := by decide +kernel
theorem d_Mo_enter_102 : decode m_Mo_enter.2.1 102 = .ok (.iload_n 1, 1) := by decide +kernel
theorem d_Mo_enter_103 : decode m_Mo_enter.2.1 103 = .ok (.iaload, 1) := by decide +kernel
theorem d_Mo_enter_104 : decode m_Mo_enter.2.1 104 = .ok (.ifCond .le 15, 3) := by decide +kernel
theorem d_Mo_enter_107 : decode m_Mo_enter.2.1 107 = .ok (.aload_n 0, 1) := by decide +kernel
theorem d_Mo_enter_108 : decode m_Mo_enter.2.1 108 = .ok (.getfield 25, 3) := by decide +kernel
theorem d_Mo_enter_111 : decode m_Mo_enter.2.1 111 = .ok (.bipush 12, 2) := by decide +kernel
theorem d_Mo_enter_113 : decode m_Mo_enter.2.1 113 = .ok (.iload_n 1, 1) := by decide +kernel
theorem d_Mo_enter_114 : decode m_Mo_enter.2.1 114 = .ok (.imul, 1) := by decide +kernel
theorem d_Mo_enter_115 : decode m_Mo_enter.2.1 115 = .ok (.iaload, 1) := by decide +kernel
theorem d_Mo_enter_116 : decode m_Mo_enter.2.1 116 = .ok (.goto 4, 3) := by decide +kernel
theorem d_Mo_enter_119 : decode m_Mo_enter.2.1 119 = .ok (.iconst 0, 1) := by decide +kernel
theorem d_Mo_enter_120 : decode m_Mo_enter.2.1 120 = .ok (.istore_n 3, 1) := by decide +kernel
theorem d_Mo_enter_121 : decode m_Mo_enter.2.1 121 = .ok (.aload_n 0, 1) := by decide +kernel
theorem d_Mo_enter_122 : decode m_Mo_enter.2.1 122 = .ok (.getfield 22, 3) := by decide +kernel
theorem d_Mo_enter_125 : decode m_Mo_enter.2.1 125 = .ok (.iload_n 1, 1) := by decide +kernel
theorem d_Mo_enter_126 : decode m_Mo_enter.2.1 126 = .ok (.iaload, 1) := by decide +kernel
theorem d_Mo_enter_127 : decode m_Mo_enter.2.1 127 = .ok (.iconst 1, 1) := by decide +kernel
theorem d_Mo_enter_128 : decode m_Mo_enter.2.1 128 = .ok (.if_icmp .le 17, 3) := by decide +kernel
theorem d_Mo_enter_131 : decode m_Mo_enter.2.1 131 = .ok (.aload_n 0, 1) := by decide +kernel
theorem d_Mo_enter_132 : decode m_Mo_enter.2.1 132 = .ok (.getfield 25, 3) := by decide +kernel
theorem d_Mo_enter_135 : decode m_Mo_enter.2.1 135 = .ok (.bipush 12, 2) := by decide +kernel
theorem d_Mo_enter_137 : decode m_Mo_enter.2.1 137 = .ok (.iload_n 1, 1) := by decide +kernel
theorem d_Mo_enter_138 : decode m_Mo_enter.2.1 138 = .ok (.imul, 1) := by decide +kernel
theorem d_Mo_enter_139 : decode m_Mo_enter.2.1 139 = .ok (.iconst 1, 1) := by decide +kernel
theorem d_Mo_enter_140 : decode m_Mo_enter.2.1 140 = .ok (.iadd, 1) := by decide +kernel
theorem d_Mo_enter_141 : decode m_Mo_enter.2.1 141 = .ok (.iaload, 1) := by decide +kernel
theorem d_Mo_enter_142 : decode m_Mo_enter.2.1 142 = .ok (.goto 4, 3) := by decide +kernel
theorem d_Mo_enter_145 : decode m_Mo_enter.2.1 145 = .ok (.iconst 0, 1) := by decide +kernel
theorem d_Mo_enter_146 : decode m_Mo_enter.2.1 146 = .ok (.istore 4, 2) := by decide +kernel
theorem d_Mo_enter_148 : decode m_Mo_enter.2.1 148 = .ok (.aload_n 0, 1) := by decide +kernel
theorem d_Mo_enter_149 : decode m_Mo_enter.2.1 149 = .ok (.iload_n 1, 1) := by decide +kernel
theorem d_Mo_enter_150 : decode m_Mo_enter.2.1 150 = .ok (.iload_n 2, 1) := by decide +kernel
theorem d_Mo_enter_151 : decode m_Mo_enter.2.1 151 = .ok (.iload_n 1, 1) := by decide +kernel
theorem d_Mo_enter_152 : decode m_Mo_enter.2.1 152 = .ok (.iconst 0, 1) := by decide +kernel
theorem d_Mo_enter_153 : decode m_Mo_enter.2.1 153 = .ok (.iload_n 3, 1) := by decide +kernel
theorem d_Mo_enter_154 : decode m_Mo_enter.2.1 154 = .ok (.iload 4, 2) := by decide +kernel
theorem d_Mo_enter_156 : decode m_Mo_enter.2.1 156 = .ok (.iconst 0, 1) := by decide +kernel
theorem d_Mo_enter_157 : decode m_Mo_enter.2.1 157 = .ok (.invokevirtual 189, 3) := by decide +kernel
theorem d_Mo_enter_160 : decode m_Mo_enter.2.1 160 = .ok (.aload_n 0, 1) := by decide +kernel
theorem d_Mo_enter_161 : decode m_Mo_enter.2.1 161 = .ok (.iconst 0, 1) := by decide +kernel
theorem d_Mo_enter_162 : decode m_Mo_enter.2.1 162 = .ok (.putfield 168, 3) := by decide +kernel
theorem d_Mo_enter_165 : decode m_Mo_enter.2.1 165 = .ok (.return_, 1) := by decide +kernel
theorem d_Mo_deliver_0 : decode m_Mo_deliver.2.1 0 = .ok (.iload_n 2, 1) := by decide +kernel
theorem d_Mo_deliver_1 : decode m_Mo_deliver.2.1 1 = .ok (.istore_n 3, 1) := by decide +kernel
theorem d_Mo_deliver_2 : decode m_Mo_deliver.2.1 2 = .ok (.iconst 0, 1) := by decide +kernel
theorem d_Mo_deliver_3 : decode m_Mo_deliver.2.1 3 = .ok (.istore 4, 2) := by decide +kernel
theorem d_Mo_deliver_5 : decode m_Mo_deliver.2.1 5 = .ok (.iload 4, 2) := by decide +kernel
theorem d_Mo_deliver_7 : decode m_Mo_deliver.2.1 7 = .ok (.aload_n 0, 1) := by decide +kernel
theorem d_Mo_deliver_8 : decode m_Mo_deliver.2.1 8 = .ok (.getfield 147, 3) := by decide +kernel
theorem d_Mo_deliver_11 : decode m_Mo_deliver.2.1 11 = .ok (.if_icmp .ge 58, 3) := by decide +kernel
theorem d_Mo_deliver_14 : decode m_Mo_deliver.2.1 14 = .ok (.iload_n 1, 1) := by decide +kernel
theorem d_Mo_deliver_15 : decode m_Mo_deliver.2.1 15 = .ok (.invokestatic 136, 3) := by decide +kernel
theorem d_Mo_deliver_18 : decode m_Mo_deliver.2.1 18 = .ok (.ifCond .eq 51, 3) := by decide +kernel
theorem d_Mo_deliver_21 : decode m_Mo_deliver.2.1 21 = .ok (.iload_n 2, 1) := by decide +kernel
theorem d_Mo_deliver_22 : decode m_Mo_deliver.2.1 22 = .ok (.ifCond .lt 47, 3) := by decide +kernel
theorem d_Mo_deliver_25 : decode m_Mo_deliver.2.1 25 = .ok (.aload_n 0, 1) := by decide +kernel
theorem d_Mo_deliver_26 : decode m_Mo_deliver.2.1 26 = .ok (.iload 4, 2) := by decide +kernel
theorem d_Mo_deliver_28 : decode m_Mo_deliver.2.1 28 = .ok (.iload_n 1, 1) := by decide +kernel
theorem d_Mo_deliver_29 : decode m_Mo_deliver.2.1 29 = .ok (.invokevirtual 150, 3) := by decide +kernel
theorem d_Mo_deliver_32 : decode m_Mo_deliver.2.1 32 = .ok (.ifCond .eq 31, 3) := by decide +kernel
theorem d_Mo_deliver_35 : decode m_Mo_deliver.2.1 35 = .ok (.iload_n 3, 1) := by decide +kernel
theorem d_Mo_deliver_36 : decode m_Mo_deliver.2.1 36 = .ok (.ifCond .ne 24, 3) := by decide +kernel
theorem d_Mo_deliver_39 : decode m_Mo_deliver.2.1 39 = .ok (.aload_n 0, 1) := by decide +kernel
theorem d_Mo_deliver_40 : decode m_Mo_deliver.2.1 40 = .ok (.iload_n 1, 1) := by decide +kernel
theorem d_Mo_deliver_41 : decode m_Mo_deliver.2.1 41 = .ok (.iload 4, 2) := by decide +kernel
theorem d_Mo_deliver_43 : decode m_Mo_deliver.2.1 43 = .ok (.invokevirtual 182, 3) := by decide +kernel
theorem d_Mo_deliver_46 : decode m_Mo_deliver.2.1 46 = .ok (.aload_n 0, 1) := by decide +kernel
theorem d_Mo_deliver_47 : decode m_Mo_deliver.2.1 47 = .ok (.getfield 7, 3) := by decide +kernel
theorem d_Mo_deliver_50 : decode m_Mo_deliver.2.1 50 = .ok (.iload 4, 2) := by decide +kernel
theorem d_Mo_deliver_52 : decode m_Mo_deliver.2.1 52 = .ok (.iaload, 1) := by decide +kernel
theorem d_Mo_deliver_53 : decode m_Mo_deliver.2.1 53 = .ok (.bipush 6, 2) := by decide +kernel
theorem d_Mo_deliver_55 : decode m_Mo_deliver.2.1 55 = .ok (.ishr, 1) := by decide +kernel
theorem d_Mo_deliver_56 : decode m_Mo_deliver.2.1 56 = .ok (.bipush 7, 2) := by decide +kernel
theorem d_Mo_deliver_58 : decode m_Mo_deliver.2.1 58 = .ok (.iand, 1) := by decide +kernel
theorem d_Mo_deliver_59 : decode m_Mo_deliver.2.1 59 = .ok (.ireturn, 1) := by decide +kernel
theorem d_Mo_deliver_60 : decode m_Mo_deliver.2.1 60 = .ok (.iinc 3 (-1), 3) := by decide +kernel
theorem d_Mo_deliver_63 : decode m_Mo_deliver.2.1 63 = .ok (.iinc 4 1, 3) := by decide +kernel
theorem d_Mo_deliver_66 : decode m_Mo_deliver.2.1 66 = .ok (.goto (-61), 3) := by decide +kernel
theorem d_Mo_deliver_69 : decode m_Mo_deliver.2.1 69 = .ok (.iconst (-1), 1) := by decide +kernel
theorem d_Mo_deliver_70 : decode m_Mo_deliver.2.1 70 = .ok (.ireturn, 1) := by decide +kernel
theorem d_Mo_betray_0 : decode m_Mo_betray.2.1 0 = .ok (.aload_n 0, 1) := by decide +kernel
theorem d_Mo_betray_1 : decode m_Mo_betray.2.1 1 = .ok (.getfield 153, 3) := by decide +kernel
theorem d_Mo_betray_4 : decode m_Mo_betray.2.1 4 = .ok (.istore_n 1, 1) := by decide +kernel
theorem d_Mo_betray_5 : decode m_Mo_betray.2.1 5 = .ok (.aload_n 0, 1) := by decide +kernel
theorem d_Mo_betray_6 : decode m_Mo_betray.2.1 6 = .ok (.iconst 1, 1) := by decide +kernel
theorem d_Mo_betray_7 : decode m_Mo_betray.2.1 7 = .ok (.putfield 153, 3) := by decide +kernel
theorem d_Mo_betray_10 : decode m_Mo_betray.2.1 10 = .ok (.iload_n 1, 1) := by decide +kernel
theorem d_Mo_betray_11 : decode m_Mo_betray.2.1 11 = .ok (.ifCond .ne 7, 3) := by decide +kernel
theorem d_Mo_betray_14 : decode m_Mo_betray.2.1 14 = .ok (.iconst 1, 1) := by decide +kernel
theorem d_Mo_betray_15 : decode m_Mo_betray.2.1 15 = .ok (.goto 4, 3) := by decide +kernel
theorem d_Mo_betray_18 : decode m_Mo_betray.2.1 18 = .ok (.iconst 0, 1) := by decide +kernel
theorem d_Mo_betray_19 : decode m_Mo_betray.2.1 19 = .ok (.ireturn, 1) := by decide +kernel
theorem d_Mo_speak_0 : decode m_Mo_speak.2.1 0 = .ok (.iload_n 1, 1) := by decide +kernel
theorem d_Mo_speak_1 : decode m_Mo_speak.2.1 1 = .ok (.invokestatic 136, 3) := by decide +kernel
theorem d_Mo_speak_4 : decode m_Mo_speak.2.1 4 = .ok (.ifCond .eq 32, 3) := by decide +kernel
theorem d_Mo_speak_7 : decode m_Mo_speak.2.1 7 = .ok (.iload_n 2, 1) := by decide +kernel
theorem d_Mo_speak_8 : decode m_Mo_speak.2.1 8 = .ok (.invokestatic 136, 3) := by decide +kernel
theorem d_Mo_speak_11 : decode m_Mo_speak.2.1 11 = .ok (.ifCond .eq 25, 3) := by decide +kernel
theorem d_Mo_speak_14 : decode m_Mo_speak.2.1 14 = .ok (.iload_n 3, 1) := by decide +kernel
theorem d_Mo_speak_15 : decode m_Mo_speak.2.1 15 = .ok (.invokestatic 136, 3) := by decide +kernel
theorem d_Mo_speak_18 : decode m_Mo_speak.2.1 18 = .ok (.ifCond .eq 18, 3) := by decide +kernel
theorem d_Mo_speak_21 : decode m_Mo_speak.2.1 21 = .ok (.iload 4, 2) := by decide +kernel
theorem d_Mo_speak_23 : decode m_Mo_speak.2.1 23 = .ok (.ifCond .lt 13, 3) := by decide +kernel
theorem d_Mo_speak_26 : decode m_Mo_speak.2.1 26 = .ok (.iload 4, 2) := by decide +kernel
