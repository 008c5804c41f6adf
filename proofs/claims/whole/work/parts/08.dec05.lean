theorem d_Mo_speak_28 : decode m_Mo_speak.2.1 28 = .ok (.iconst 4, 1) := by decide +kernel
theorem d_Mo_speak_29 : decode m_Mo_speak.2.1 29 = .ok (.if_icmp .gt 7, 3) := by decide +kernel
theorem d_Mo_speak_32 : decode m_Mo_speak.2.1 32 = .ok (.iconst 1, 1) := by decide +kernel
theorem d_Mo_speak_33 : decode m_Mo_speak.2.1 33 = .ok (.goto 4, 3) := by decide +kernel
theorem d_Mo_speak_36 : decode m_Mo_speak.2.1 36 = .ok (.iconst 0, 1) := by decide +kernel
theorem d_Mo_speak_37 : decode m_Mo_speak.2.1 37 = .ok (.istore 7, 2) := by decide +kernel
theorem d_Mo_speak_39 : decode m_Mo_speak.2.1 39 = .ok (.iload 4, 2) := by decide +kernel
theorem d_Mo_speak_41 : decode m_Mo_speak.2.1 41 = .ok (.iconst 3, 1) := by decide +kernel
theorem d_Mo_speak_42 : decode m_Mo_speak.2.1 42 = .ok (.if_icmp .lt 25, 3) := by decide +kernel
theorem d_Mo_speak_45 : decode m_Mo_speak.2.1 45 = .ok (.iload 5, 2) := by decide +kernel
theorem d_Mo_speak_47 : decode m_Mo_speak.2.1 47 = .ok (.ifCond .lt 24, 3) := by decide +kernel
theorem d_Mo_speak_50 : decode m_Mo_speak.2.1 50 = .ok (.iload 5, 2) := by decide +kernel
theorem d_Mo_speak_52 : decode m_Mo_speak.2.1 52 = .ok (.iconst 5, 1) := by decide +kernel
theorem d_Mo_speak_53 : decode m_Mo_speak.2.1 53 = .ok (.if_icmp .gt 18, 3) := by decide +kernel
theorem d_Mo_speak_56 : decode m_Mo_speak.2.1 56 = .ok (.iload 6, 2) := by decide +kernel
theorem d_Mo_speak_58 : decode m_Mo_speak.2.1 58 = .ok (.ifCond .eq 9, 3) := by decide +kernel
theorem d_Mo_speak_61 : decode m_Mo_speak.2.1 61 = .ok (.iload 6, 2) := by decide +kernel
theorem d_Mo_speak_63 : decode m_Mo_speak.2.1 63 = .ok (.iconst 1, 1) := by decide +kernel
theorem d_Mo_speak_64 : decode m_Mo_speak.2.1 64 = .ok (.if_icmp .ne 7, 3) := by decide +kernel
theorem d_Mo_speak_67 : decode m_Mo_speak.2.1 67 = .ok (.iconst 1, 1) := by decide +kernel
theorem d_Mo_speak_68 : decode m_Mo_speak.2.1 68 = .ok (.goto 4, 3) := by decide +kernel
theorem d_Mo_speak_71 : decode m_Mo_speak.2.1 71 = .ok (.iconst 0, 1) := by decide +kernel
theorem d_Mo_speak_72 : decode m_Mo_speak.2.1 72 = .ok (.istore 8, 2) := by decide +kernel
theorem d_Mo_speak_74 : decode m_Mo_speak.2.1 74 = .ok (.aload_n 0, 1) := by decide +kernel
theorem d_Mo_speak_75 : decode m_Mo_speak.2.1 75 = .ok (.getfield 153, 3) := by decide +kernel
theorem d_Mo_speak_78 : decode m_Mo_speak.2.1 78 = .ok (.ifCond .eq 23, 3) := by decide +kernel
theorem d_Mo_speak_81 : decode m_Mo_speak.2.1 81 = .ok (.iload 7, 2) := by decide +kernel
theorem d_Mo_speak_83 : decode m_Mo_speak.2.1 83 = .ok (.ifCond .eq 18, 3) := by decide +kernel
theorem d_Mo_speak_86 : decode m_Mo_speak.2.1 86 = .ok (.iload 8, 2) := by decide +kernel
theorem d_Mo_speak_88 : decode m_Mo_speak.2.1 88 = .ok (.ifCond .eq 13, 3) := by decide +kernel
theorem d_Mo_speak_91 : decode m_Mo_speak.2.1 91 = .ok (.aload_n 0, 1) := by decide +kernel
theorem d_Mo_speak_92 : decode m_Mo_speak.2.1 92 = .ok (.getfield 186, 3) := by decide +kernel
theorem d_Mo_speak_95 : decode m_Mo_speak.2.1 95 = .ok (.sipush 300, 3) := by decide +kernel
theorem d_Mo_speak_98 : decode m_Mo_speak.2.1 98 = .ok (.if_icmp .ne 5, 3) := by decide +kernel
theorem d_Mo_speak_101 : decode m_Mo_speak.2.1 101 = .ok (.iconst 0, 1) := by decide +kernel
theorem d_Mo_speak_102 : decode m_Mo_speak.2.1 102 = .ok (.ireturn, 1) := by decide +kernel
theorem d_Mo_speak_103 : decode m_Mo_speak.2.1 103 = .ok (.aload_n 0, 1) := by decide +kernel
theorem d_Mo_speak_104 : decode m_Mo_speak.2.1 104 = .ok (.dup, 1) := by decide +kernel
theorem d_Mo_speak_105 : decode m_Mo_speak.2.1 105 = .ok (.getfield 186, 3) := by decide +kernel
theorem d_Mo_speak_108 : decode m_Mo_speak.2.1 108 = .ok (.iconst 1, 1) := by decide +kernel
theorem d_Mo_speak_109 : decode m_Mo_speak.2.1 109 = .ok (.iadd, 1) := by decide +kernel
theorem d_Mo_speak_110 : decode m_Mo_speak.2.1 110 = .ok (.putfield 186, 3) := by decide +kernel
theorem d_Mo_speak_113 : decode m_Mo_speak.2.1 113 = .ok (.aload_n 0, 1) := by decide +kernel
theorem d_Mo_speak_114 : decode m_Mo_speak.2.1 114 = .ok (.iconst 3, 1) := by decide +kernel
theorem d_Mo_speak_115 : decode m_Mo_speak.2.1 115 = .ok (.iload_n 2, 1) := by decide +kernel
theorem d_Mo_speak_116 : decode m_Mo_speak.2.1 116 = .ok (.iload_n 3, 1) := by decide +kernel
theorem d_Mo_speak_117 : decode m_Mo_speak.2.1 117 = .ok (.iload 4, 2) := by decide +kernel
theorem d_Mo_speak_119 : decode m_Mo_speak.2.1 119 = .ok (.iload 5, 2) := by decide +kernel
theorem d_Mo_speak_121 : decode m_Mo_speak.2.1 121 = .ok (.iload 6, 2) := by decide +kernel
theorem d_Mo_speak_123 : decode m_Mo_speak.2.1 123 = .ok (.bipush 15, 2) := by decide +kernel
theorem d_Mo_speak_125 : decode m_Mo_speak.2.1 125 = .ok (.iconst 1, 1) := by decide +kernel
theorem d_Mo_speak_126 : decode m_Mo_speak.2.1 126 = .ok (.iload_n 1, 1) := by decide +kernel
theorem d_Mo_speak_127 : decode m_Mo_speak.2.1 127 = .ok (.ishl, 1) := by decide +kernel
theorem d_Mo_speak_128 : decode m_Mo_speak.2.1 128 = .ok (.ixor, 1) := by decide +kernel
theorem d_Mo_speak_129 : decode m_Mo_speak.2.1 129 = .ok (.bipush 16, 2) := by decide +kernel
theorem d_Mo_speak_131 : decode m_Mo_speak.2.1 131 = .ok (.ior, 1) := by decide +kernel
theorem d_Mo_speak_132 : decode m_Mo_speak.2.1 132 = .ok (.invokevirtual 189, 3) := by decide +kernel
theorem d_Mo_speak_135 : decode m_Mo_speak.2.1 135 = .ok (.iconst 1, 1) := by decide +kernel
theorem d_Mo_speak_136 : decode m_Mo_speak.2.1 136 = .ok (.ireturn, 1) := by decide +kernel
theorem d_Mo_begin_0 : decode m_Mo_begin.2.1 0 = .ok (.iload_n 1, 1) := by decide +kernel
theorem d_Mo_begin_1 : decode m_Mo_begin.2.1 1 = .ok (.invokestatic 136, 3) := by decide +kernel
theorem d_Mo_begin_4 : decode m_Mo_begin.2.1 4 = .ok (.ifCond .eq 24, 3) := by decide +kernel
theorem d_Mo_begin_7 : decode m_Mo_begin.2.1 7 = .ok (.aload_n 0, 1) := by decide +kernel
theorem d_Mo_begin_8 : decode m_Mo_begin.2.1 8 = .ok (.getfield 19, 3) := by decide +kernel
theorem d_Mo_begin_11 : decode m_Mo_begin.2.1 11 = .ok (.iload_n 1, 1) := by decide +kernel
theorem d_Mo_begin_12 : decode m_Mo_begin.2.1 12 = .ok (.iaload, 1) := by decide +kernel
theorem d_Mo_begin_13 : decode m_Mo_begin.2.1 13 = .ok (.ifCond .ge 15, 3) := by decide +kernel
theorem d_Mo_begin_16 : decode m_Mo_begin.2.1 16 = .ok (.iload_n 1, 1) := by decide +kernel
theorem d_Mo_begin_17 : decode m_Mo_begin.2.1 17 = .ok (.iconst 3, 1) := by decide +kernel
theorem d_Mo_begin_18 : decode m_Mo_begin.2.1 18 = .ok (.if_icmp .ne 12, 3) := by decide +kernel
theorem d_Mo_begin_21 : decode m_Mo_begin.2.1 21 = .ok (.aload_n 0, 1) := by decide +kernel
theorem d_Mo_begin_22 : decode m_Mo_begin.2.1 22 = .ok (.getfield 153, 3) := by decide +kernel
theorem d_Mo_begin_25 : decode m_Mo_begin.2.1 25 = .ok (.ifCond .eq 5, 3) := by decide +kernel
theorem d_Mo_begin_28 : decode m_Mo_begin.2.1 28 = .ok (.iconst 0, 1) := by decide +kernel
theorem d_Mo_begin_29 : decode m_Mo_begin.2.1 29 = .ok (.ireturn, 1) := by decide +kernel
theorem d_Mo_begin_30 : decode m_Mo_begin.2.1 30 = .ok (.aload_n 0, 1) := by decide +kernel
theorem d_Mo_begin_31 : decode m_Mo_begin.2.1 31 = .ok (.iload_n 1, 1) := by decide +kernel
theorem d_Mo_begin_32 : decode m_Mo_begin.2.1 32 = .ok (.iconst 0, 1) := by decide +kernel
theorem d_Mo_begin_33 : decode m_Mo_begin.2.1 33 = .ok (.invokevirtual 193, 3) := by decide +kernel
theorem d_Mo_begin_36 : decode m_Mo_begin.2.1 36 = .ok (.aload_n 0, 1) := by decide +kernel
theorem d_Mo_begin_37 : decode m_Mo_begin.2.1 37 = .ok (.iload_n 1, 1) := by decide +kernel
theorem d_Mo_begin_38 : decode m_Mo_begin.2.1 38 = .ok (.invokevirtual 171, 3) := by decide +kernel
theorem d_Mo_begin_41 : decode m_Mo_begin.2.1 41 = .ok (.iconst 1, 1) := by decide +kernel
theorem d_Mo_begin_42 : decode m_Mo_begin.2.1 42 = .ok (.ireturn, 1) := by decide +kernel
theorem d_Mo_epoch_0 : decode m_Mo_epoch.2.1 0 = .ok (.iload_n 1, 1) := by decide +kernel
theorem d_Mo_epoch_1 : decode m_Mo_epoch.2.1 1 = .ok (.invokestatic 136, 3) := by decide +kernel
theorem d_Mo_epoch_4 : decode m_Mo_epoch.2.1 4 = .ok (.ifCond .eq 12, 3) := by decide +kernel
theorem d_Mo_epoch_7 : decode m_Mo_epoch.2.1 7 = .ok (.aload_n 0, 1) := by decide +kernel
theorem d_Mo_epoch_8 : decode m_Mo_epoch.2.1 8 = .ok (.getfield 19, 3) := by decide +kernel
theorem d_Mo_epoch_11 : decode m_Mo_epoch.2.1 11 = .ok (.iload_n 1, 1) := by decide +kernel
theorem d_Mo_epoch_12 : decode m_Mo_epoch.2.1 12 = .ok (.iaload, 1) := by decide +kernel
theorem d_Mo_epoch_13 : decode m_Mo_epoch.2.1 13 = .ok (.goto 4, 3) := by decide +kernel
theorem d_Mo_epoch_16 : decode m_Mo_epoch.2.1 16 = .ok (.iconst (-1), 1) := by decide +kernel
theorem d_Mo_epoch_17 : decode m_Mo_epoch.2.1 17 = .ok (.ireturn, 1) := by decide +kernel
theorem d_Mo_ledger_0 : decode m_Mo_ledger.2.1 0 = .ok (.iload_n 1, 1) := by decide +kernel
theorem d_Mo_ledger_1 : decode m_Mo_ledger.2.1 1 = .ok (.invokestatic 136, 3) := by decide +kernel
theorem d_Mo_ledger_4 : decode m_Mo_ledger.2.1 4 = .ok (.ifCond .eq 18, 3) := by decide +kernel
theorem d_Mo_ledger_7 : decode m_Mo_ledger.2.1 7 = .ok (.iload_n 2, 1) := by decide +kernel
theorem d_Mo_ledger_8 : decode m_Mo_ledger.2.1 8 = .ok (.iconst (-1), 1) := by decide +kernel
theorem d_Mo_ledger_9 : decode m_Mo_ledger.2.1 9 = .ok (.if_icmp .lt 13, 3) := by decide +kernel
theorem d_Mo_ledger_12 : decode m_Mo_ledger.2.1 12 = .ok (.iload_n 2, 1) := by decide +kernel
theorem d_Mo_ledger_13 : decode m_Mo_ledger.2.1 13 = .ok (.aload_n 0, 1) := by decide +kernel
theorem d_Mo_ledger_14 : decode m_Mo_ledger.2.1 14 = .ok (.getfield 28, 3) := by decide +kernel
theorem d_Mo_ledger_17 : decode m_Mo_ledger.2.1 17 = .ok (.iload_n 1, 1) := by decide +kernel
theorem d_Mo_ledger_18 : decode m_Mo_ledger.2.1 18 = .ok (.iaload, 1) := by decide +kernel
theorem d_Mo_ledger_19 : decode m_Mo_ledger.2.1 19 = .ok (.if_icmp .lt 5, 3) := by decide +kernel
theorem d_Mo_ledger_22 : decode m_Mo_ledger.2.1 22 = .ok (.iconst (-1), 1) := by decide +kernel
theorem d_Mo_ledger_23 : decode m_Mo_ledger.2.1 23 = .ok (.ireturn, 1) := by decide +kernel
theorem d_Mo_ledger_24 : decode m_Mo_ledger.2.1 24 = .ok (.iload_n 2, 1) := by decide +kernel
theorem d_Mo_ledger_25 : decode m_Mo_ledger.2.1 25 = .ok (.ifCond .ge 12, 3) := by decide +kernel
theorem d_Mo_ledger_28 : decode m_Mo_ledger.2.1 28 = .ok (.aload_n 0, 1) := by decide +kernel
theorem d_Mo_ledger_29 : decode m_Mo_ledger.2.1 29 = .ok (.getfield 28, 3) := by decide +kernel
theorem d_Mo_ledger_32 : decode m_Mo_ledger.2.1 32 = .ok (.iload_n 1, 1) := by decide +kernel
theorem d_Mo_ledger_33 : decode m_Mo_ledger.2.1 33 = .ok (.iaload, 1) := by decide +kernel
theorem d_Mo_ledger_34 : decode m_Mo_ledger.2.1 34 = .ok (.goto 14, 3) := by decide +kernel
theorem d_Mo_ledger_37 : decode m_Mo_ledger.2.1 37 = .ok (.aload_n 0, 1) := by decide +kernel
theorem d_Mo_ledger_38 : decode m_Mo_ledger.2.1 38 = .ok (.getfield 31, 3) := by decide +kernel
theorem d_Mo_ledger_41 : decode m_Mo_ledger.2.1 41 = .ok (.bipush 40, 2) := by decide +kernel
theorem d_Mo_ledger_43 : decode m_Mo_ledger.2.1 43 = .ok (.iload_n 1, 1) := by decide +kernel
theorem d_Mo_ledger_44 : decode m_Mo_ledger.2.1 44 = .ok (.imul, 1) := by decide +kernel
theorem d_Mo_ledger_45 : decode m_Mo_ledger.2.1 45 = .ok (.iload_n 2, 1) := by decide +kernel
theorem d_Mo_ledger_46 : decode m_Mo_ledger.2.1 46 = .ok (.iadd, 1) := by decide +kernel
theorem d_Mo_ledger_47 : decode m_Mo_ledger.2.1 47 = .ok (.iaload, 1) := by decide +kernel
theorem d_Mo_ledger_48 : decode m_Mo_ledger.2.1 48 = .ok (.ireturn, 1) := by decide +kernel
theorem d_Mo_queue_0 : decode m_Mo_queue.2.1 0 = .ok (.iload_n 1, 1) := by decide +kernel
theorem d_Mo_queue_1 : decode m_Mo_queue.2.1 1 = .ok (.invokestatic 136, 3) := by decide +kernel
theorem d_Mo_queue_4 : decode m_Mo_queue.2.1 4 = .ok (.ifCond .eq 18, 3) := by decide +kernel
theorem d_Mo_queue_7 : decode m_Mo_queue.2.1 7 = .ok (.iload_n 2, 1) := by decide +kernel
theorem d_Mo_queue_8 : decode m_Mo_queue.2.1 8 = .ok (.iconst (-1), 1) := by decide +kernel
theorem d_Mo_queue_9 : decode m_Mo_queue.2.1 9 = .ok (.if_icmp .lt 13, 3) := by decide +kernel
theorem d_Mo_queue_12 : decode m_Mo_queue.2.1 12 = .ok (.iload_n 2, 1) := by decide +kernel
theorem d_Mo_queue_13 : decode m_Mo_queue.2.1 13 = .ok (.aload_n 0, 1) := by decide +kernel
theorem d_Mo_queue_14 : decode m_Mo_queue.2.1 14 = .ok (.getfield 22, 3) := by decide +kernel
theorem d_Mo_queue_17 : decode m_Mo_queue.2.1 17 = .ok (.iload_n 1, 1) := by decide +kernel
theorem d_Mo_queue_18 : decode m_Mo_queue.2.1 18 = .ok (.iaload, 1) := by decide +kernel
theorem d_Mo_queue_19 : decode m_Mo_queue.2.1 19 = .ok (.if_icmp .lt 5, 3) := by decide +kernel
theorem d_Mo_queue_22 : decode m_Mo_queue.2.1 22 = .ok (.iconst (-1), 1) := by decide +kernel
theorem d_Mo_queue_23 : decode m_Mo_queue.2.1 23 = .ok (.ireturn, 1) := by decide +kernel
theorem d_Mo_queue_24 : decode m_Mo_queue.2.1 24 = .ok (.iload_n 2, 1) := by decide +kernel
theorem d_Mo_queue_25 : decode m_Mo_queue.2.1 25 = .ok (.ifCond .ge 12, 3) := by decide +kernel
theorem d_Mo_queue_28 : decode m_Mo_queue.2.1 28 = .ok (.aload_n 0, 1) := by decide +kernel
theorem d_Mo_queue_29 : decode m_Mo_queue.2.1 29 = .ok (.getfield 22, 3) := by decide +kernel
theorem d_Mo_queue_32 : decode m_Mo_queue.2.1 32 = .ok (.iload_n 1, 1) := by decide +kernel
theorem d_Mo_queue_33 : decode m_Mo_queue.2.1 33 = .ok (.iaload, 1) := by decide +kernel
theorem d_Mo_queue_34 : decode m_Mo_queue.2.1 34 = .ok (.goto 14, 3) := by decide +kernel
theorem d_Mo_queue_37 : decode m_Mo_queue.2.1 37 = .ok (.aload_n 0, 1) := by decide +kernel
theorem d_Mo_queue_38 : decode m_Mo_queue.2.1 38 = .ok (.getfield 25, 3) := by decide +kernel
theorem d_Mo_queue_41 : decode m_Mo_queue.2.1 41 = .ok (.bipush 12, 2) := by decide +kernel
theorem d_Mo_queue_43 : decode m_Mo_queue.2.1 43 = .ok (.iload_n 1, 1) := by decide +kernel
theorem d_Mo_queue_44 : decode m_Mo_queue.2.1 44 = .ok (.imul, 1) := by decide +kernel
theorem d_Mo_queue_45 : decode m_Mo_queue.2.1 45 = .ok (.iload_n 2, 1) := by decide +kernel
theorem d_Mo_queue_46 : decode m_Mo_queue.2.1 46 = .ok (.iadd, 1) := by decide +kernel
theorem d_Mo_queue_47 : decode m_Mo_queue.2.1 47 = .ok (.iaload, 1) := by decide +kernel
theorem d_Mo_queue_48 : decode m_Mo_queue.2.1 48 = .ok (.ireturn, 1) := by decide +kernel
theorem d_Mo_instance_0 : decode m_Mo_instance.2.1 0 = .ok (.iload_n 1, 1) := by decide +kernel
theorem d_Mo_instance_1 : decode m_Mo_instance.2.1 1 = .ok (.invokestatic 136, 3) := by decide +kernel
theorem d_Mo_instance_4 : decode m_Mo_instance.2.1 4 = .ok (.ifCond .eq 39, 3) := by decide +kernel
theorem d_Mo_instance_7 : decode m_Mo_instance.2.1 7 = .ok (.iload_n 2, 1) := by decide +kernel
theorem d_Mo_instance_8 : decode m_Mo_instance.2.1 8 = .ok (.invokestatic 136, 3) := by decide +kernel
theorem d_Mo_instance_11 : decode m_Mo_instance.2.1 11 = .ok (.ifCond .eq 32, 3) := by decide +kernel
theorem d_Mo_instance_14 : decode m_Mo_instance.2.1 14 = .ok (.iload_n 3, 1) := by decide +kernel
theorem d_Mo_instance_15 : decode m_Mo_instance.2.1 15 = .ok (.ifCond .lt 28, 3) := by decide +kernel
theorem d_Mo_instance_18 : decode m_Mo_instance.2.1 18 = .ok (.iload_n 3, 1) := by decide +kernel
theorem d_Mo_instance_19 : decode m_Mo_instance.2.1 19 = .ok (.bipush 6, 2) := by decide +kernel
theorem d_Mo_instance_21 : decode m_Mo_instance.2.1 21 = .ok (.if_icmp .gt 22, 3) := by decide +kernel
theorem d_Mo_instance_24 : decode m_Mo_instance.2.1 24 = .ok (.aload_n 0, 1) := by decide +kernel
theorem d_Mo_instance_25 : decode m_Mo_instance.2.1 25 = .ok (.getfield 19, 3) := by decide +kernel
theorem d_Mo_instance_28 : decode m_Mo_instance.2.1 28 = .ok (.iload_n 1, 1) := by decide +kernel
theorem d_Mo_instance_29 : decode m_Mo_instance.2.1 29 = .ok (.iaload, 1) := by decide +kernel
theorem d_Mo_instance_30 : decode m_Mo_instance.2.1 30 = .ok (.ifCond .lt 13, 3) := by decide +kernel
theorem d_Mo_instance_33 : decode m_Mo_instance.2.1 33 = .ok (.aload_n 0, 1) := by decide +kernel
theorem d_Mo_instance_34 : decode m_Mo_instance.2.1 34 = .ok (.getfield 19, 3) := by decide +kernel
theorem d_Mo_instance_37 : decode m_Mo_instance.2.1 37 = .ok (.iload_n 1, 1) := by decide +kernel
theorem d_Mo_instance_38 : decode m_Mo_instance.2.1 38 = .ok (.iaload, 1) := by decide +kernel
theorem d_Mo_instance_39 : decode m_Mo_instance.2.1 39 = .ok (.iconst 3, 1) := by decide +kernel
theorem d_Mo_instance_40 : decode m_Mo_instance.2.1 40 = .ok (.if_icmp .le 5, 3) := by decide +kernel
theorem d_Mo_instance_43 : decode m_Mo_instance.2.1 43 = .ok (.iconst (-1), 1) := by decide +kernel
theorem d_Mo_instance_44 : decode m_Mo_instance.2.1 44 = .ok (.ireturn, 1) := by decide +kernel
theorem d_Mo_instance_45 : decode m_Mo_instance.2.1 45 = .ok (.bipush 16, 2) := by decide +kernel
theorem d_Mo_instance_47 : decode m_Mo_instance.2.1 47 = .ok (.iload_n 1, 1) := by decide +kernel
theorem d_Mo_instance_48 : decode m_Mo_instance.2.1 48 = .ok (.imul, 1) := by decide +kernel
theorem d_Mo_instance_49 : decode m_Mo_instance.2.1 49 = .ok (.iconst 4, 1) := by decide +kernel
theorem d_Mo_instance_50 : decode m_Mo_instance.2.1 50 = .ok (.aload_n 0, 1) := by decide +kernel
theorem d_Mo_instance_51 : decode m_Mo_instance.2.1 51 = .ok (.getfield 19, 3) := by decide +kernel
theorem d_Mo_instance_54 : decode m_Mo_instance.2.1 54 = .ok (.iload_n 1, 1) := by decide +kernel
theorem d_Mo_instance_55 : decode m_Mo_instance.2.1 55 = .ok (.iaload, 1) := by decide +kernel
theorem d_Mo_instance_56 : decode m_Mo_instance.2.1 56 = .ok (.imul, 1) := by decide +kernel
theorem d_Mo_instance_57 : decode m_Mo_instance.2.1 57 = .ok (.iadd, 1) := by decide +kernel
theorem d_Mo_instance_58 : decode m_Mo_instance.2.1 58 = .ok (.iload_n 2, 1) := by decide +kernel
theorem d_Mo_instance_59 : decode m_Mo_instance.2.1 59 = .ok (.iadd, 1) := by decide +kernel
theorem d_Mo_instance_60 : decode m_Mo_instance.2.1 60 = .ok (.istore 4, 2) := by decide +kernel
theorem d_Mo_instance_62 : decode m_Mo_instance.2.1 62 = .ok (.iconst 4, 1) := by decide +kernel
theorem d_Mo_instance_63 : decode m_Mo_instance.2.1 63 = .ok (.iload_n 1, 1) := by decide +kernel
theorem d_Mo_instance_64 : decode m_Mo_instance.2.1 64 = .ok (.imul, 1) := by decide +kernel
theorem d_Mo_instance_65 : decode m_Mo_instance.2.1 65 = .ok (.iload_n 2, 1) := by decide +kernel
theorem d_Mo_instance_66 : decode m_Mo_instance.2.1 66 = .ok (.iadd, 1) := by decide +kernel
theorem d_Mo_instance_67 : decode m_Mo_instance.2.1 67 = .ok (.istore 5, 2) := by decide +kernel
theorem d_Mo_instance_69 : decode m_Mo_instance.2.1 69 = .ok (.iload_n 3, 1) := by decide +kernel
theorem d_Mo_instance_70 : decode m_Mo_instance.2.1 70 = .ok (.ifCond .ne 51, 3) := by decide +kernel
theorem d_Mo_instance_73 : decode m_Mo_instance.2.1 73 = .ok (.aload_n 0, 1) := by decide +kernel
theorem d_Mo_instance_74 : decode m_Mo_instance.2.1 74 = .ok (.getfield 65, 3) := by decide +kernel
theorem d_Mo_instance_77 : decode m_Mo_instance.2.1 77 = .ok (.iload 4, 2) := by decide +kernel
theorem d_Mo_instance_79 : decode m_Mo_instance.2.1 79 = .ok (.baload, 1) := by decide +kernel
theorem d_Mo_instance_80 : decode m_Mo_instance.2.1 80 = .ok (.ifCond .eq 7, 3) := by decide +kernel
theorem d_Mo_instance_83 : decode m_Mo_instance.2.1 83 = .ok (.iconst 1, 1) := by decide +kernel
theorem d_Mo_instance_84 : decode m_Mo_instance.2.1 84 = .ok (.goto 4, 3) := by decide +kernel
theorem d_Mo_instance_87 : decode m_Mo_instance.2.1 87 = .ok (.iconst 0, 1) := by decide +kernel
theorem d_Mo_instance_88 : decode m_Mo_instance.2.1 88 = .ok (.aload_n 0, 1) := by decide +kernel
theorem d_Mo_instance_89 : decode m_Mo_instance.2.1 89 = .ok (.getfield 68, 3) := by decide +kernel
theorem d_Mo_instance_92 : decode m_Mo_instance.2.1 92 = .ok (.iload 4, 2) := by decide +kernel
theorem d_Mo_instance_94 : decode m_Mo_instance.2.1 94 = .ok (.baload, 1) := by decide +kernel
theorem d_Mo_instance_95 : decode m_Mo_instance.2.1 95 = .ok (.ifCond .eq 7, 3) := by decide +kernel
theorem d_Mo_instance_98 : decode m_Mo_instance.2.1 98 = .ok (.iconst 2, 1) := by decide +kernel
theorem d_Mo_instance_99 : decode m_Mo_instance.2.1 99 = .ok (.goto 4, 3) := by decide +kernel
theorem d_Mo_instance_102 : decode m_Mo_instance.2.1 102 = .ok (.iconst 0, 1) := by decide +kernel
theorem d_Mo_instance_103 : decode m_Mo_instance.2.1 103 = .ok (.iadd, 1) := by decide +kernel
theorem d_Mo_instance_104 : decode m_Mo_instance.2.1 104 = .ok (.aload_n 0, 1) := by decide +kernel
theorem d_Mo_instance_105 : decode m_Mo_instance.2.1 105 = .ok (.getfield 77, 3) := by decide +kernel
theorem d_Mo_instance_108 : decode m_Mo_instance.2.1 108 = .ok (.iload 5, 2) := by decide +kernel
theorem d_Mo_instance_110 : decode m_Mo_instance.2.1 110 = .ok (.iaload, 1) := by decide +kernel
theorem d_Mo_instance_111 : decode m_Mo_instance.2.1 111 = .ok (.ifCond .lt 7, 3) := by decide +kernel
theorem d_Mo_instance_114 : decode m_Mo_instance.2.1 114 = .ok (.iconst 4, 1) := by decide +kernel
theorem d_Mo_instance_115 : decode m_Mo_instance.2.1 115 = .ok (.goto 4, 3) := by decide +kernel
theorem d_Mo_instance_118 : decode m_Mo_instance.2.1 118 = .ok (.iconst 0, 1) := by decide +kernel
theorem d_Mo_instance_119 : decode m_Mo_instance.2.1 119 = .ok (.iadd, 1) := by decide +kernel
theorem d_Mo_instance_120 : decode m_Mo_instance.2.1 120 = .ok (.ireturn, 1) := by decide +kernel
theorem d_Mo_instance_121 : decode m_Mo_instance.2.1 121 = .ok (.iload_n 3, 1) := by decide +kernel
theorem d_Mo_instance_122 : decode m_Mo_instance.2.1 122 = .ok (.iconst 2, 1) := by decide +kernel
theorem d_Mo_instance_123 : decode m_Mo_instance.2.1 123 = .ok (.if_icmp .eq 8, 3) := by decide +kernel
theorem d_Mo_instance_126 : decode m_Mo_instance.2.1 126 = .ok (.iload_n 3, 1) := by decide +kernel
theorem d_Mo_instance_127 : decode m_Mo_instance.2.1 127 = .ok (.iconst 3, 1) := by decide +kernel
theorem d_Mo_instance_128 : decode m_Mo_instance.2.1 128 = .ok (.if_icmp .ne 40, 3) := by decide +kernel
theorem d_Mo_instance_131 : decode m_Mo_instance.2.1 131 = .ok (.aload_n 0, 1) := by decide +kernel
theorem d_Mo_instance_132 : decode m_Mo_instance.2.1 132 = .ok (.getfield 80, 3) := by decide +kernel
theorem d_Mo_instance_135 : decode m_Mo_instance.2.1 135 = .ok (.iload 5, 2) := by decide +kernel
theorem d_Mo_instance_137 : decode m_Mo_instance.2.1 137 = .ok (.baload, 1) := by decide +kernel
theorem d_Mo_instance_138 : decode m_Mo_instance.2.1 138 = .ok (.ifCond .ne 7, 3) := by decide +kernel
theorem d_Mo_instance_141 : decode m_Mo_instance.2.1 141 = .ok (.iconst (-1), 1) := by decide +kernel
theorem d_Mo_instance_142 : decode m_Mo_instance.2.1 142 = .ok (.goto 25, 3) := by decide +kernel
theorem d_Mo_instance_145 : decode m_Mo_instance.2.1 145 = .ok (.iload_n 3, 1) := by decide +kernel
theorem d_Mo_instance_146 : decode m_Mo_instance.2.1 146 = .ok (.iconst 2, 1) := by decide +kernel
theorem d_Mo_instance_147 : decode m_Mo_instance.2.1 147 = .ok (.if_icmp .ne 13, 3) := by decide +kernel
theorem d_Mo_instance_150 : decode m_Mo_instance.2.1 150 = .ok (.aload_n 0, 1) := by decide +kernel
theorem d_Mo_instance_151 : decode m_Mo_instance.2.1 151 = .ok (.getfield 86, 3) := by decide +kernel
theorem d_Mo_instance_154 : decode m_Mo_instance.2.1 154 = .ok (.iload 5, 2) := by decide +kernel
theorem d_Mo_instance_156 : decode m_Mo_instance.2.1 156 = .ok (.iaload, 1) := by decide +kernel
theorem d_Mo_instance_157 : decode m_Mo_instance.2.1 157 = .ok (.goto 10, 3) := by decide +kernel
theorem d_Mo_instance_160 : decode m_Mo_instance.2.1 160 = .ok (.aload_n 0, 1) := by decide +kernel
theorem d_Mo_instance_161 : decode m_Mo_instance.2.1 161 = .ok (.getfield 83, 3) := by decide +kernel
theorem d_Mo_instance_164 : decode m_Mo_instance.2.1 164 = .ok (.iload 5, 2) := by decide +kernel
theorem d_Mo_instance_166 : decode m_Mo_instance.2.1 166 = .ok (.iaload, 1) := by decide +kernel
theorem d_Mo_instance_167 : decode m_Mo_instance.2.1 167 = .ok (.ireturn, 1) := by decide +kernel
theorem d_Mo_instance_168 : decode m_Mo_instance.2.1 168 = .ok (.iload_n 3, 1) := by decide +kernel
theorem d_Mo_instance_169 : decode m_Mo_instance.2.1 169 = .ok (.iconst 1, 1) := by decide +kernel
theorem d_Mo_instance_170 : decode m_Mo_instance.2.1 170 = .ok (.if_icmp .ne 13, 3) := by decide +kernel
theorem d_Mo_instance_173 : decode m_Mo_instance.2.1 173 = .ok (.aload_n 0, 1) := by decide +kernel
theorem d_Mo_instance_174 : decode m_Mo_instance.2.1 174 = .ok (.getfield 77, 3) := by decide +kernel
theorem d_Mo_instance_177 : decode m_Mo_instance.2.1 177 = .ok (.iload 5, 2) := by decide +kernel
theorem d_Mo_instance_179 : decode m_Mo_instance.2.1 179 = .ok (.iaload, 1) := by decide +kernel
theorem d_Mo_instance_180 : decode m_Mo_instance.2.1 180 = .ok (.goto 48, 3) := by decide +kernel
theorem d_Mo_instance_183 : decode m_Mo_instance.2.1 183 = .ok (.iload_n 3, 1) := by decide +kernel
theorem d_Mo_instance_184 : decode m_Mo_instance.2.1 184 = .ok (.iconst 4, 1) := by decide +kernel
theorem d_Mo_instance_185 : decode m_Mo_instance.2.1 185 = .ok (.if_icmp .ne 13, 3) := by decide +kernel
theorem d_Mo_instance_188 : decode m_Mo_instance.2.1 188 = .ok (.aload_n 0, 1) := by decide +kernel
theorem d_Mo_instance_189 : decode m_Mo_instance.2.1 189 = .ok (.getfield 95, 3) := by decide +kernel
theorem d_Mo_instance_192 : decode m_Mo_instance.2.1 192 = .ok (.iload 5, 2) := by decide +kernel
theorem d_Mo_instance_194 : decode m_Mo_instance.2.1 194 = .ok (.iaload, 1) := by decide +kernel
theorem d_Mo_instance_195 : decode m_Mo_instance.2.1 195 = .ok (.goto 33, 3) := by decide +kernel
theorem d_Mo_instance_198 : decode m_Mo_instance.2.1 198 = .ok (.iload_n 3, 1) := by decide +kernel
theorem d_Mo_instance_199 : decode m_Mo_instance.2.1 199 = .ok (.iconst 5, 1) := by decide +kernel
theorem d_Mo_instance_200 : decode m_Mo_instance.2.1 200 = .ok (.if_icmp .ne 21, 3) := by decide +kernel
theorem d_Mo_instance_203 : decode m_Mo_instance.2.1 203 = .ok (.aload_n 0, 1) := by decide +kernel
theorem d_Mo_instance_204 : decode m_Mo_instance.2.1 204 = .ok (.getfield 98, 3) := by decide +kernel
theorem d_Mo_instance_207 : decode m_Mo_instance.2.1 207 = .ok (.iload 5, 2) := by decide +kernel
theorem d_Mo_instance_209 : decode m_Mo_instance.2.1 209 = .ok (.baload, 1) := by decide +kernel
theorem d_Mo_instance_210 : decode m_Mo_instance.2.1 210 = .ok (.ifCond .eq 7, 3) := by decide +kernel
theorem d_Mo_instance_213 : decode m_Mo_instance.2.1 213 = .ok (.iconst 1, 1) := by decide +kernel
theorem d_Mo_instance_214 : decode m_Mo_instance.2.1 214 = .ok (.goto 14, 3) := by decide +kernel
theorem d_Mo_instance_217 : decode m_Mo_instance.2.1 217 = .ok (.iconst 0, 1) := by decide +kernel
theorem d_Mo_instance_218 : decode m_Mo_instance.2.1 218 = .ok (.goto 10, 3) := by decide +kernel
theorem d_Mo_instance_221 : decode m_Mo_instance.2.1 221 = .ok (.aload_n 0, 1) := by decide +kernel
theorem d_Mo_instance_222 : decode m_Mo_instance.2.1 222 = .ok (.getfield 89, 3) := by decide +kernel
theorem d_Mo_instance_225 : decode m_Mo_instance.2.1 225 = .ok (.iload 5, 2) := by decide +kernel
theorem d_Mo_instance_227 : decode m_Mo_instance.2.1 227 = .ok (.iaload, 1) := by decide +kernel
theorem d_Mo_instance_228 : decode m_Mo_instance.2.1 228 = .ok (.ireturn, 1) := by decide +kernel
theorem d_Lw_law_0 : decode m_Lw_law.2.1 0 = .ok (.new 7, 3) := by decide +kernel
theorem d_Lw_law_3 : decode m_Lw_law.2.1 3 = .ok (.dup, 1) := by decide +kernel
theorem d_Lw_law_4 : decode m_Lw_law.2.1 4 = .ok (.aload_n 0, 1) := by decide +kernel
theorem d_Lw_law_5 : decode m_Lw_law.2.1 5 = .ok (.iconst 0, 1) := by decide +kernel
theorem d_Lw_law_6 : decode m_Lw_law.2.1 6 = .ok (.invokestatic 9, 3) := by decide +kernel
theorem d_Lw_law_9 : decode m_Lw_law.2.1 9 = .ok (.invokespecial 15, 3) := by decide +kernel
theorem d_Lw_law_12 : decode m_Lw_law.2.1 12 = .ok (.astore_n 1, 1) := by decide +kernel
theorem d_Lw_law_13 : decode m_Lw_law.2.1 13 = .ok (.new 18, 3) := by decide +kernel
theorem d_Lw_law_16 : decode m_Lw_law.2.1 16 = .ok (.dup, 1) := by decide +kernel
theorem d_Lw_law_17 : decode m_Lw_law.2.1 17 = .ok (.aload_n 0, 1) := by decide +kernel
theorem d_Lw_law_18 : decode m_Lw_law.2.1 18 = .ok (.iconst 0, 1) := by decide +kernel
theorem d_Lw_law_19 : decode m_Lw_law.2.1 19 = .ok (.invokestatic 9, 3) := by decide +kernel
theorem d_Lw_law_22 : decode m_Lw_law.2.1 22 = .ok (.invokespecial 20, 3) := by decide +kernel
theorem d_Lw_law_25 : decode m_Lw_law.2.1 25 = .ok (.astore_n 2, 1) := by decide +kernel
theorem d_Lw_law_26 : decode m_Lw_law.2.1 26 = .ok (.iconst 1, 1) := by decide +kernel
theorem d_Lw_law_27 : decode m_Lw_law.2.1 27 = .ok (.istore_n 3, 1) := by decide +kernel
theorem d_Lw_law_28 : decode m_Lw_law.2.1 28 = .ok (.iload_n 3, 1) := by decide +kernel
theorem d_Lw_law_29 : decode m_Lw_law.2.1 29 = .ok (.aload_n 0, 1) := by decide +kernel
theorem d_Lw_law_30 : decode m_Lw_law.2.1 30 = .ok (.arraylength, 1) := by decide +kernel
theorem d_Lw_law_31 : decode m_Lw_law.2.1 31 = .ok (.bipush 7, 2) := by decide +kernel
theorem d_Lw_law_33 : decode m_Lw_law.2.1 33 = .ok (.isub, 1) := by decide +kernel
theorem d_Lw_law_34 : decode m_Lw_law.2.1 34 = .ok (.if_icmp .gt 521, 3) := by decide +kernel
theorem d_Lw_law_37 : decode m_Lw_law.2.1 37 = .ok (.aload_n 0, 1) := by decide +kernel
theorem d_Lw_law_38 : decode m_Lw_law.2.1 38 = .ok (.iload_n 3, 1) := by decide +kernel
theorem d_Lw_law_39 : decode m_Lw_law.2.1 39 = .ok (.iaload, 1) := by decide +kernel
theorem d_Lw_law_40 : decode m_Lw_law.2.1 40 = .ok (.bipush 15, 2) := by decide +kernel
theorem d_Lw_law_42 : decode m_Lw_law.2.1 42 = .ok (.iand, 1) := by decide +kernel
theorem d_Lw_law_43 : decode m_Lw_law.2.1 43 = .ok (.tableswitch 506 0 12 #[65, 98, 121, 154, 187, 200, 275, 298, 331, 364, 387, 430, 473], 65) := by decide +kernel
theorem d_Lw_law_108 : decode m_Lw_law.2.1 108 = .ok (.aload_n 1, 1) := by decide +kernel
theorem d_Lw_law_109 : decode m_Lw_law.2.1 109 = .ok (.aload_n 0, 1) := by decide +kernel
theorem d_Lw_law_110 : decode m_Lw_law.2.1 110 = .ok (.iload_n 3, 1) := by decide +kernel
theorem d_Lw_law_111 : decode m_Lw_law.2.1 111 = .ok (.iconst 1, 1) := by decide +kernel
theorem d_Lw_law_112 : decode m_Lw_law.2.1 112 = .ok (.iadd, 1) := by decide +kernel
theorem d_Lw_law_113 : decode m_Lw_law.2.1 113 = .ok (.iaload, 1) := by decide +kernel
theorem d_Lw_law_114 : decode m_Lw_law.2.1 114 = .ok (.aload_n 0, 1) := by decide +kernel
theorem d_Lw_law_115 : decode m_Lw_law.2.1 115 = .ok (.iload_n 3, 1) := by decide +kernel
theorem d_Lw_law_116 : decode m_Lw_law.2.1 116 = .ok (.iconst 2, 1) := by decide +kernel
theorem d_Lw_law_117 : decode m_Lw_law.2.1 117 = .ok (.iadd, 1) := by decide +kernel
theorem d_Lw_law_118 : decode m_Lw_law.2.1 118 = .ok (.iaload, 1) := by decide +kernel
theorem d_Lw_law_119 : decode m_Lw_law.2.1 119 = .ok (.invokevirtual 21, 3) := by decide +kernel
theorem d_Lw_law_122 : decode m_Lw_law.2.1 122 = .ok (.aload_n 2, 1) := by decide +kernel
theorem d_Lw_law_123 : decode m_Lw_law.2.1 123 = .ok (.aload_n 0, 1) := by decide +kernel
theorem d_Lw_law_124 : decode m_Lw_law.2.1 124 = .ok (.iload_n 3, 1) := by decide +kernel
theorem d_Lw_law_125 : decode m_Lw_law.2.1 125 = .ok (.iconst 1, 1) := by decide +kernel
theorem d_Lw_law_126 : decode m_Lw_law.2.1 126 = .ok (.iadd, 1) := by decide +kernel
theorem d_Lw_law_127 : decode m_Lw_law.2.1 127 = .ok (.iaload, 1) := by decide +kernel
theorem d_Lw_law_128 : decode m_Lw_law.2.1 128 = .ok (.aload_n 0, 1) := by decide +kernel
theorem d_Lw_law_129 : decode m_Lw_law.2.1 129 = .ok (.iload_n 3, 1) := by decide +kernel
theorem d_Lw_law_130 : decode m_Lw_law.2.1 130 = .ok (.iconst 2, 1) := by decide +kernel
theorem d_Lw_law_131 : decode m_Lw_law.2.1 131 = .ok (.iadd, 1) := by decide +kernel
theorem d_Lw_law_132 : decode m_Lw_law.2.1 132 = .ok (.iaload, 1) := by decide +kernel
theorem d_Lw_law_133 : decode m_Lw_law.2.1 133 = .ok (.invokevirtual 25, 3) := by decide +kernel
theorem d_Lw_law_136 : decode m_Lw_law.2.1 136 = .ok (.if_icmp .eq 413, 3) := by decide +kernel
theorem d_Lw_law_139 : decode m_Lw_law.2.1 139 = .ok (.iconst 0, 1) := by decide +kernel
theorem d_Lw_law_140 : decode m_Lw_law.2.1 140 = .ok (.ireturn, 1) := by decide +kernel
theorem d_Lw_law_141 : decode m_Lw_law.2.1 141 = .ok (.aload_n 1, 1) := by decide +kernel
theorem d_Lw_law_142 : decode m_Lw_law.2.1 142 = .ok (.aload_n 0, 1) := by decide +kernel
theorem d_Lw_law_143 : decode m_Lw_law.2.1 143 = .ok (.iload_n 3, 1) := by decide +kernel
theorem d_Lw_law_144 : decode m_Lw_law.2.1 144 = .ok (.iconst 1, 1) := by decide +kernel
theorem d_Lw_law_145 : decode m_Lw_law.2.1 145 = .ok (.iadd, 1) := by decide +kernel
theorem d_Lw_law_146 : decode m_Lw_law.2.1 146 = .ok (.iaload, 1) := by decide +kernel
theorem d_Lw_law_147 : decode m_Lw_law.2.1 147 = .ok (.invokevirtual 26, 3) := by decide +kernel
theorem d_Lw_law_150 : decode m_Lw_law.2.1 150 = .ok (.aload_n 2, 1) := by decide +kernel
theorem d_Lw_law_151 : decode m_Lw_law.2.1 151 = .ok (.aload_n 0, 1) := by decide +kernel
theorem d_Lw_law_152 : decode m_Lw_law.2.1 152 = .ok (.iload_n 3, 1) := by decide +kernel
theorem d_Lw_law_153 : decode m_Lw_law.2.1 153 = .ok (.iconst 1, 1) := by decide +kernel
theorem d_Lw_law_154 : decode m_Lw_law.2.1 154 = .ok (.iadd, 1) := by decide +kernel
theorem d_Lw_law_155 : decode m_Lw_law.2.1 155 = .ok (.iaload, 1) := by decide +kernel
theorem d_Lw_law_156 : decode m_Lw_law.2.1 156 = .ok (.invokevirtual 30, 3) := by decide +kernel
theorem d_Lw_law_159 : decode m_Lw_law.2.1 159 = .ok (.if_icmp .eq 390, 3) := by decide +kernel
theorem d_Lw_law_162 : decode m_Lw_law.2.1 162 = .ok (.iconst 0, 1) := by decide +kernel
theorem d_Lw_law_163 : decode m_Lw_law.2.1 163 = .ok (.ireturn, 1) := by decide +kernel
theorem d_Lw_law_164 : decode m_Lw_law.2.1 164 = .ok (.aload_n 1, 1) := by decide +kernel
theorem d_Lw_law_165 : decode m_Lw_law.2.1 165 = .ok (.aload_n 0, 1) := by decide +kernel
theorem d_Lw_law_166 : decode m_Lw_law.2.1 166 = .ok (.iload_n 3, 1) := by decide +kernel
theorem d_Lw_law_167 : decode m_Lw_law.2.1 167 = .ok (.iconst 1, 1) := by decide +kernel
theorem d_Lw_law_168 : decode m_Lw_law.2.1 168 = .ok (.iadd, 1) := by decide +kernel
theorem d_Lw_law_169 : decode m_Lw_law.2.1 169 = .ok (.iaload, 1) := by decide +kernel
theorem d_Lw_law_170 : decode m_Lw_law.2.1 170 = .ok (.aload_n 0, 1) := by decide +kernel
theorem d_Lw_law_171 : decode m_Lw_law.2.1 171 = .ok (.iload_n 3, 1) := by decide +kernel
theorem d_Lw_law_172 : decode m_Lw_law.2.1 172 = .ok (.iconst 2, 1) := by decide +kernel
theorem d_Lw_law_173 : decode m_Lw_law.2.1 173 = .ok (.iadd, 1) := by decide +kernel
theorem d_Lw_law_174 : decode m_Lw_law.2.1 174 = .ok (.iaload, 1) := by decide +kernel
theorem d_Lw_law_175 : decode m_Lw_law.2.1 175 = .ok (.invokevirtual 31, 3) := by decide +kernel
theorem d_Lw_law_178 : decode m_Lw_law.2.1 178 = .ok (.aload_n 2, 1) := by decide +kernel
theorem d_Lw_law_179 : decode m_Lw_law.2.1 179 = .ok (.aload_n 0, 1) := by decide +kernel
theorem d_Lw_law_180 : decode m_Lw_law.2.1 180 = .ok (.iload_n 3, 1) := by decide +kernel
theorem d_Lw_law_181 : decode m_Lw_law.2.1 181 = .ok (.iconst 1, 1) := by decide +kernel
theorem d_Lw_law_182 : decode m_Lw_law.2.1 182 = .ok (.iadd, 1) := by decide +kernel
theorem d_Lw_law_183 : decode m_Lw_law.2.1 183 = .ok (.iaload, 1) := by decide +kernel
theorem d_Lw_law_184 : decode m_Lw_law.2.1 184 = .ok (.aload_n 0, 1) := by decide +kernel
theorem d_Lw_law_185 : decode m_Lw_law.2.1 185 = .ok (.iload_n 3, 1) := by decide +kernel
theorem d_Lw_law_186 : decode m_Lw_law.2.1 186 = .ok (.iconst 2, 1) := by decide +kernel
theorem d_Lw_law_187 : decode m_Lw_law.2.1 187 = .ok (.iadd, 1) := by decide +kernel
theorem d_Lw_law_188 : decode m_Lw_law.2.1 188 = .ok (.iaload, 1) := by decide +kernel
theorem d_Lw_law_189 : decode m_Lw_law.2.1 189 = .ok (.invokevirtual 35, 3) := by decide +kernel
theorem d_Lw_law_192 : decode m_Lw_law.2.1 192 = .ok (.if_icmp .eq 357, 3) := by decide +kernel
theorem d_Lw_law_195 : decode m_Lw_law.2.1 195 = .ok (.iconst 0, 1) := by decide +kernel
theorem d_Lw_law_196 : decode m_Lw_law.2.1 196 = .ok (.ireturn, 1) := by decide +kernel
theorem d_Lw_law_197 : decode m_Lw_law.2.1 197 = .ok (.aload_n 1, 1) := by decide +kernel
theorem d_Lw_law_198 : decode m_Lw_law.2.1 198 = .ok (.aload_n 0, 1) := by decide +kernel
theorem d_Lw_law_199 : decode m_Lw_law.2.1 199 = .ok (.iload_n 3, 1) := by decide +kernel
theorem d_Lw_law_200 : decode m_Lw_law.2.1 200 = .ok (.iconst 1, 1) := by decide +kernel
theorem d_Lw_law_201 : decode m_Lw_law.2.1 201 = .ok (.iadd, 1) := by decide +kernel
theorem d_Lw_law_202 : decode m_Lw_law.2.1 202 = .ok (.iaload, 1) := by decide +kernel
theorem d_Lw_law_203 : decode m_Lw_law.2.1 203 = .ok (.aload_n 0, 1) := by decide +kernel
theorem d_Lw_law_204 : decode m_Lw_law.2.1 204 = .ok (.iload_n 3, 1) := by decide +kernel
theorem d_Lw_law_205 : decode m_Lw_law.2.1 205 = .ok (.iconst 2, 1) := by decide +kernel
theorem d_Lw_law_206 : decode m_Lw_law.2.1 206 = .ok (.iadd, 1) := by decide +kernel
theorem d_Lw_law_207 : decode m_Lw_law.2.1 207 = .ok (.iaload, 1) := by decide +kernel
theorem d_Lw_law_208 : decode m_Lw_law.2.1 208 = .ok (.invokevirtual 36, 3) := by decide +kernel
theorem d_Lw_law_211 : decode m_Lw_law.2.1 211 = .ok (.aload_n 2, 1) := by decide +kernel
theorem d_Lw_law_212 : decode m_Lw_law.2.1 212 = .ok (.aload_n 0, 1) := by decide +kernel
theorem d_Lw_law_213 : decode m_Lw_law.2.1 213 = .ok (.iload_n 3, 1) := by decide +kernel
theorem d_Lw_law_214 : decode m_Lw_law.2.1 214 = .ok (.iconst 1, 1) := by decide +kernel
theorem d_Lw_law_215 : decode m_Lw_law.2.1 215 = .ok (.iadd, 1) := by decide +kernel
theorem d_Lw_law_216 : decode m_Lw_law.2.1 216 = .ok (.iaload, 1) := by decide +kernel
theorem d_Lw_law_217 : decode m_Lw_law.2.1 217 = .ok (.aload_n 0, 1) := by decide +kernel
theorem d_Lw_law_218 : decode m_Lw_law.2.1 218 = .ok (.iload_n 3, 1) := by decide +kernel
theorem d_Lw_law_219 : decode m_Lw_law.2.1 219 = .ok (.iconst 2, 1) := by decide +kernel
theorem d_Lw_law_220 : decode m_Lw_law.2.1 220 = .ok (.iadd, 1) := by decide +kernel
theorem d_Lw_law_221 : decode m_Lw_law.2.1 221 = .ok (.iaload, 1) := by decide +kernel
theorem d_Lw_law_222 : decode m_Lw_law.2.1 222 = .ok (.invokevirtual 39, 3) := by decide +kernel
theorem d_Lw_law_225 : decode m_Lw_law.2.1 225 = .ok (.if_icmp .eq 324, 3) := by decide +kernel
theorem d_Lw_law_228 : decode m_Lw_law.2.1 228 = .ok (.iconst 0, 1) := by decide +kernel
theorem d_Lw_law_229 : decode m_Lw_law.2.1 229 = .ok (.ireturn, 1) := by decide +kernel
theorem d_Lw_law_230 : decode m_Lw_law.2.1 230 = .ok (.aload_n 1, 1) := by decide +kernel
theorem d_Lw_law_231 : decode m_Lw_law.2.1 231 = .ok (.invokevirtual 40, 3) := by decide +kernel
theorem d_Lw_law_234 : decode m_Lw_law.2.1 234 = .ok (.aload_n 2, 1) := by decide +kernel
theorem d_Lw_law_235 : decode m_Lw_law.2.1 235 = .ok (.invokevirtual 44, 3) := by decide +kernel
theorem d_Lw_law_238 : decode m_Lw_law.2.1 238 = .ok (.if_icmp .eq 311, 3) := by decide +kernel
theorem d_Lw_law_241 : decode m_Lw_law.2.1 241 = .ok (.iconst 0, 1) := by decide +kernel
theorem d_Lw_law_242 : decode m_Lw_law.2.1 242 = .ok (.ireturn, 1) := by decide +kernel
theorem d_Lw_law_243 : decode m_Lw_law.2.1 243 = .ok (.aload_n 1, 1) := by decide +kernel
theorem d_Lw_law_244 : decode m_Lw_law.2.1 244 = .ok (.aload_n 0, 1) := by decide +kernel
theorem d_Lw_law_245 : decode m_Lw_law.2.1 245 = .ok (.iload_n 3, 1) := by decide +kernel
theorem d_Lw_law_246 : decode m_Lw_law.2.1 246 = .ok (.iconst 1, 1) := by decide +kernel
theorem d_Lw_law_247 : decode m_Lw_law.2.1 247 = .ok (.iadd, 1) := by decide +kernel
theorem d_Lw_law_248 : decode m_Lw_law.2.1 248 = .ok (.iaload, 1) := by decide +kernel
theorem d_Lw_law_249 : decode m_Lw_law.2.1 249 = .ok (.aload_n 0, 1) := by decide +kernel
theorem d_Lw_law_250 : decode m_Lw_law.2.1 250 = .ok (.iload_n 3, 1) := by decide +kernel
theorem d_Lw_law_251 : decode m_Lw_law.2.1 251 = .ok (.iconst 2, 1) := by decide +kernel
theorem d_Lw_law_252 : decode m_Lw_law.2.1 252 = .ok (.iadd, 1) := by decide +kernel
theorem d_Lw_law_253 : decode m_Lw_law.2.1 253 = .ok (.iaload, 1) := by decide +kernel
theorem d_Lw_law_254 : decode m_Lw_law.2.1 254 = .ok (.aload_n 0, 1) := by decide +kernel
theorem d_Lw_law_255 : decode m_Lw_law.2.1 255 = .ok (.iload_n 3, 1) := by decide +kernel
theorem d_Lw_law_256 : decode m_Lw_law.2.1 256 = .ok (.iconst 3, 1) := by decide +kernel
theorem d_Lw_law_257 : decode m_Lw_law.2.1 257 = .ok (.iadd, 1) := by decide +kernel
theorem d_Lw_law_258 : decode m_Lw_law.2.1 258 = .ok (.iaload, 1) := by decide +kernel
theorem d_Lw_law_259 : decode m_Lw_law.2.1 259 = .ok (.aload_n 0, 1) := by decide +kernel
theorem d_Lw_law_260 : decode m_Lw_law.2.1 260 = .ok (.iload_n 3, 1) := by decide +kernel
theorem d_Lw_law_261 : decode m_Lw_law.2.1 261 = .ok (.iconst 4, 1) := by decide +kernel
theorem d_Lw_law_262 : decode m_Lw_law.2.1 262 = .ok (.iadd, 1) := by decide +kernel
theorem d_Lw_law_263 : decode m_Lw_law.2.1 263 = .ok (.iaload, 1) := by decide +kernel
theorem d_Lw_law_264 : decode m_Lw_law.2.1 264 = .ok (.aload_n 0, 1) := by decide +kernel
theorem d_Lw_law_265 : decode m_Lw_law.2.1 265 = .ok (.iload_n 3, 1) := by decide +kernel
theorem d_Lw_law_266 : decode m_Lw_law.2.1 266 = .ok (.iconst 5, 1) := by decide +kernel
theorem d_Lw_law_267 : decode m_Lw_law.2.1 267 = .ok (.iadd, 1) := by decide +kernel
theorem d_Lw_law_268 : decode m_Lw_law.2.1 268 = .ok (.iaload, 1) := by decide +kernel
theorem d_Lw_law_269 : decode m_Lw_law.2.1 269 = .ok (.aload_n 0, 1) := by decide +kernel
theorem d_Lw_law_270 : decode m_Lw_law.2.1 270 = .ok (.iload_n 3, 1) := by decide +kernel
theorem d_Lw_law_271 : decode m_Lw_law.2.1 271 = .ok (.bipush 6, 2) := by decide +kernel
theorem d_Lw_law_273 : decode m_Lw_law.2.1 273 = .ok (.iadd, 1) := by decide +kernel
theorem d_Lw_law_274 : decode m_Lw_law.2.1 274 = .ok (.iaload, 1) := by decide +kernel
theorem d_Lw_law_275 : decode m_Lw_law.2.1 275 = .ok (.invokevirtual 45, 3) := by decide +kernel
theorem d_Lw_law_278 : decode m_Lw_law.2.1 278 = .ok (.aload_n 2, 1) := by decide +kernel
theorem d_Lw_law_279 : decode m_Lw_law.2.1 279 = .ok (.aload_n 0, 1) := by decide +kernel
theorem d_Lw_law_280 : decode m_Lw_law.2.1 280 = .ok (.iload_n 3, 1) := by decide +kernel
theorem d_Lw_law_281 : decode m_Lw_law.2.1 281 = .ok (.iconst 1, 1) := by decide +kernel
theorem d_Lw_law_282 : decode m_Lw_law.2.1 282 = .ok (.iadd, 1) := by decide +kernel
theorem d_Lw_law_283 : decode m_Lw_law.2.1 283 = .ok (.iaload, 1) := by decide +kernel
theorem d_Lw_law_284 : decode m_Lw_law.2.1 284 = .ok (.aload_n 0, 1) := by decide +kernel
theorem d_Lw_law_285 : decode m_Lw_law.2.1 285 = .ok (.iload_n 3, 1) := by decide +kernel
theorem d_Lw_law_286 : decode m_Lw_law.2.1 286 = .ok (.iconst 2, 1) := by decide +kernel
theorem d_Lw_law_287 : decode m_Lw_law.2.1 287 = .ok (.iadd, 1) := by decide +kernel
theorem d_Lw_law_288 : decode m_Lw_law.2.1 288 = .ok (.iaload, 1) := by decide +kernel
theorem d_Lw_law_289 : decode m_Lw_law.2.1 289 = .ok (.aload_n 0, 1) := by decide +kernel
theorem d_Lw_law_290 : decode m_Lw_law.2.1 290 = .ok (.iload_n 3, 1) := by decide +kernel
theorem d_Lw_law_291 : decode m_Lw_law.2.1 291 = .ok (.iconst 3, 1) := by decide +kernel
theorem d_Lw_law_292 : decode m_Lw_law.2.1 292 = .ok (.iadd, 1) := by decide +kernel
theorem d_Lw_law_293 : decode m_Lw_law.2.1 293 = .ok (.iaload, 1) := by decide +kernel
theorem d_Lw_law_294 : decode m_Lw_law.2.1 294 = .ok (.aload_n 0, 1) := by decide +kernel
theorem d_Lw_law_295 : decode m_Lw_law.2.1 295 = .ok (.iload_n 3, 1) := by decide +kernel
theorem d_Lw_law_296 : decode m_Lw_law.2.1 296 = .ok (.iconst 4, 1) := by decide +kernel
theorem d_Lw_law_297 : decode m_Lw_law.2.1 297 = .ok (.iadd, 1) := by decide +kernel
theorem d_Lw_law_298 : decode m_Lw_law.2.1 298 = .ok (.iaload, 1) := by decide +kernel
theorem d_Lw_law_299 : decode m_Lw_law.2.1 299 = .ok (.aload_n 0, 1) := by decide +kernel
theorem d_Lw_law_300 : decode m_Lw_law.2.1 300 = .ok (.iload_n 3, 1) := by decide +kernel
theorem d_Lw_law_301 : decode m_Lw_law.2.1 301 = .ok (.iconst 5, 1) := by decide +kernel
theorem d_Lw_law_302 : decode m_Lw_law.2.1 302 = .ok (.iadd, 1) := by decide +kernel
theorem d_Lw_law_303 : decode m_Lw_law.2.1 303 = .ok (.iaload, 1) := by decide +kernel
theorem d_Lw_law_304 : decode m_Lw_law.2.1 304 = .ok (.aload_n 0, 1) := by decide +kernel
theorem d_Lw_law_305 : decode m_Lw_law.2.1 305 = .ok (.iload_n 3, 1) := by decide +kernel
theorem d_Lw_law_306 : decode m_Lw_law.2.1 306 = .ok (.bipush 6, 2) := by decide +kernel
theorem d_Lw_law_308 : decode m_Lw_law.2.1 308 = .ok (.iadd, 1) := by decide +kernel
theorem d_Lw_law_309 : decode m_Lw_law.2.1 309 = .ok (.iaload, 1) := by decide +kernel
theorem d_Lw_law_310 : decode m_Lw_law.2.1 310 = .ok (.invokevirtual 49, 3) := by decide +kernel
theorem d_Lw_law_313 : decode m_Lw_law.2.1 313 = .ok (.if_icmp .eq 236, 3) := by decide +kernel
theorem d_Lw_law_316 : decode m_Lw_law.2.1 316 = .ok (.iconst 0, 1) := by decide +kernel
theorem d_Lw_law_317 : decode m_Lw_law.2.1 317 = .ok (.ireturn, 1) := by decide +kernel
theorem d_Lw_law_318 : decode m_Lw_law.2.1 318 = .ok (.aload_n 1, 1) := by decide +kernel
theorem d_Lw_law_319 : decode m_Lw_law.2.1 319 = .ok (.aload_n 0, 1) := by decide +kernel
theorem d_Lw_law_320 : decode m_Lw_law.2.1 320 = .ok (.iload_n 3, 1) := by decide +kernel
theorem d_Lw_law_321 : decode m_Lw_law.2.1 321 = .ok (.iconst 1, 1) := by decide +kernel
theorem d_Lw_law_322 : decode m_Lw_law.2.1 322 = .ok (.iadd, 1) := by decide +kernel
theorem d_Lw_law_323 : decode m_Lw_law.2.1 323 = .ok (.iaload, 1) := by decide +kernel
theorem d_Lw_law_324 : decode m_Lw_law.2.1 324 = .ok (.invokevirtual 50, 3) := by decide +kernel
theorem d_Lw_law_327 : decode m_Lw_law.2.1 327 = .ok (.aload_n 2, 1) := by decide +kernel
theorem d_Lw_law_328 : decode m_Lw_law.2.1 328 = .ok (.aload_n 0, 1) := by decide +kernel
theorem d_Lw_law_329 : decode m_Lw_law.2.1 329 = .ok (.iload_n 3, 1) := by decide +kernel
theorem d_Lw_law_330 : decode m_Lw_law.2.1 330 = .ok (.iconst 1, 1) := by decide +kernel
theorem d_Lw_law_331 : decode m_Lw_law.2.1 331 = .ok (.iadd, 1) := by decide +kernel
theorem d_Lw_law_332 : decode m_Lw_law.2.1 332 = .ok (.iaload, 1) := by decide +kernel
theorem d_Lw_law_333 : decode m_Lw_law.2.1 333 = .ok (.invokevirtual 54, 3) := by decide +kernel
theorem d_Lw_law_336 : decode m_Lw_law.2.1 336 = .ok (.if_icmp .eq 213, 3) := by decide +kernel
theorem d_Lw_law_339 : decode m_Lw_law.2.1 339 = .ok (.iconst 0, 1) := by decide +kernel
theorem d_Lw_law_340 : decode m_Lw_law.2.1 340 = .ok (.ireturn, 1) := by decide +kernel
theorem d_Lw_law_341 : decode m_Lw_law.2.1 341 = .ok (.aload_n 1, 1) := by decide +kernel
theorem d_Lw_law_342 : decode m_Lw_law.2.1 342 = .ok (.aload_n 0, 1) := by decide +kernel
theorem d_Lw_law_343 : decode m_Lw_law.2.1 343 = .ok (.iload_n 3, 1) := by decide +kernel
theorem d_Lw_law_344 : decode m_Lw_law.2.1 344 = .ok (.iconst 1, 1) := by decide +kernel
theorem d_Lw_law_345 : decode m_Lw_law.2.1 345 = .ok (.iadd, 1) := by decide +kernel
theorem d_Lw_law_346 : decode m_Lw_law.2.1 346 = .ok (.iaload, 1) := by decide +kernel
theorem d_Lw_law_347 : decode m_Lw_law.2.1 347 = .ok (.aload_n 0, 1) := by decide +kernel
theorem d_Lw_law_348 : decode m_Lw_law.2.1 348 = .ok (.iload_n 3, 1) := by decide +kernel
theorem d_Lw_law_349 : decode m_Lw_law.2.1 349 = .ok (.iconst 2, 1) := by decide +kernel
theorem d_Lw_law_350 : decode m_Lw_law.2.1 350 = .ok (.iadd, 1) := by decide +kernel
theorem d_Lw_law_351 : decode m_Lw_law.2.1 351 = .ok (.iaload, 1) := by decide +kernel
theorem d_Lw_law_352 : decode m_Lw_law.2.1 352 = .ok (.invokevirtual 55, 3) := by decide +kernel
theorem d_Lw_law_355 : decode m_Lw_law.2.1 355 = .ok (.aload_n 2, 1) := by decide +kernel
theorem d_Lw_law_356 : decode m_Lw_law.2.1 356 = .ok (.aload_n 0, 1) := by decide +kernel
theorem d_Lw_law_357 : decode m_Lw_law.2.1 357 = .ok (.iload_n 3, 1) := by decide +kernel
theorem d_Lw_law_358 : decode m_Lw_law.2.1 358 = .ok (.iconst 1, 1) := by decide +kernel
theorem d_Lw_law_359 : decode m_Lw_law.2.1 359 = .ok (.iadd, 1) := by decide +kernel
theorem d_Lw_law_360 : decode m_Lw_law.2.1 360 = .ok (.iaload, 1) := by decide +kernel
theorem d_Lw_law_361 : decode m_Lw_law.2.1 361 = .ok (.aload_n 0, 1) := by decide +kernel
theorem d_Lw_law_362 : decode m_Lw_law.2.1 362 = .ok (.iload_n 3, 1) := by decide +kernel
theorem d_Lw_law_363 : decode m_Lw_law.2.1 363 = .ok (.iconst 2, 1) := by decide +kernel
theorem d_Lw_law_364 : decode m_Lw_law.2.1 364 = .ok (.iadd, 1) := by decide +kernel
theorem d_Lw_law_365 : decode m_Lw_law.2.1 365 = .ok (.iaload, 1) := by decide +kernel
theorem d_Lw_law_366 : decode m_Lw_law.2.1 366 = .ok (.invokevirtual 58, 3) := by decide +kernel
theorem d_Lw_law_369 : decode m_Lw_law.2.1 369 = .ok (.if_icmp .eq 180, 3) := by decide +kernel
theorem d_Lw_law_372 : decode m_Lw_law.2.1 372 = .ok (.iconst 0, 1) := by decide +kernel
theorem d_Lw_law_373 : decode m_Lw_law.2.1 373 = .ok (.ireturn, 1) := by decide +kernel
theorem d_Lw_law_374 : decode m_Lw_law.2.1 374 = .ok (.aload_n 1, 1) := by decide +kernel
theorem d_Lw_law_375 : decode m_Lw_law.2.1 375 = .ok (.aload_n 0, 1) := by decide +kernel
theorem d_Lw_law_376 : decode m_Lw_law.2.1 376 = .ok (.iload_n 3, 1) := by decide +kernel
theorem d_Lw_law_377 : decode m_Lw_law.2.1 377 = .ok (.iconst 1, 1) := by decide +kernel
theorem d_Lw_law_378 : decode m_Lw_law.2.1 378 = .ok (.iadd, 1) := by decide +kernel
theorem d_Lw_law_379 : decode m_Lw_law.2.1 379 = .ok (.iaload, 1) := by decide +kernel
theorem d_Lw_law_380 : decode m_Lw_law.2.1 380 = .ok (.aload_n 0, 1) := by decide +kernel
theorem d_Lw_law_381 : decode m_Lw_law.2.1 381 = .ok (.iload_n 3, 1) := by decide +kernel
theorem d_Lw_law_382 : decode m_Lw_law.2.1 382 = .ok (.iconst 2, 1) := by decide +kernel
theorem d_Lw_law_383 : decode m_Lw_law.2.1 383 = .ok (.iadd, 1) := by decide +kernel
theorem d_Lw_law_384 : decode m_Lw_law.2.1 384 = .ok (.iaload, 1) := by decide +kernel
theorem d_Lw_law_385 : decode m_Lw_law.2.1 385 = .ok (.invokevirtual 59, 3) := by decide +kernel
theorem d_Lw_law_388 : decode m_Lw_law.2.1 388 = .ok (.aload_n 2, 1) := by decide +kernel
theorem d_Lw_law_389 : decode m_Lw_law.2.1 389 = .ok (.aload_n 0, 1) := by decide +kernel
theorem d_Lw_law_390 : decode m_Lw_law.2.1 390 = .ok (.iload_n 3, 1) := by decide +kernel
theorem d_Lw_law_391 : decode m_Lw_law.2.1 391 = .ok (.iconst 1, 1) := by decide +kernel
theorem d_Lw_law_392 : decode m_Lw_law.2.1 392 = .ok (.iadd, 1) := by decide +kernel
theorem d_Lw_law_393 : decode m_Lw_law.2.1 393 = .ok (.iaload, 1) := by decide +kernel
theorem d_Lw_law_394 : decode m_Lw_law.2.1 394 = .ok (.aload_n 0, 1) := by decide +kernel
theorem d_Lw_law_395 : decode m_Lw_law.2.1 395 = .ok (.iload_n 3, 1) := by decide +kernel
theorem d_Lw_law_396 : decode m_Lw_law.2.1 396 = .ok (.iconst 2, 1) := by decide +kernel
theorem d_Lw_law_397 : decode m_Lw_law.2.1 397 = .ok (.iadd, 1) := by decide +kernel
theorem d_Lw_law_398 : decode m_Lw_law.2.1 398 = .ok (.iaload, 1) := by decide +kernel
theorem d_Lw_law_399 : decode m_Lw_law.2.1 399 = .ok (.invokevirtual 62, 3) := by decide +kernel
theorem d_Lw_law_402 : decode m_Lw_law.2.1 402 = .ok (.if_icmp .eq 147, 3) := by decide +kernel
theorem d_Lw_law_405 : decode m_Lw_law.2.1 405 = .ok (.iconst 0, 1) := by decide +kernel
theorem d_Lw_law_406 : decode m_Lw_law.2.1 406 = .ok (.ireturn, 1) := by decide +kernel
theorem d_Lw_law_407 : decode m_Lw_law.2.1 407 = .ok (.aload_n 1, 1) := by decide +kernel
theorem d_Lw_law_408 : decode m_Lw_law.2.1 408 = .ok (.aload_n 0, 1) := by decide +kernel
theorem d_Lw_law_409 : decode m_Lw_law.2.1 409 = .ok (.iload_n 3, 1) := by decide +kernel
theorem d_Lw_law_410 : decode m_Lw_law.2.1 410 = .ok (.iconst 1, 1) := by decide +kernel
theorem d_Lw_law_411 : decode m_Lw_law.2.1 411 = .ok (.iadd, 1) := by decide +kernel
theorem d_Lw_law_412 : decode m_Lw_law.2.1 412 = .ok (.iaload, 1) := by decide +kernel
theorem d_Lw_law_413 : decode m_Lw_law.2.1 413 = .ok (.invokevirtual 63, 3) := by decide +kernel
theorem d_Lw_law_416 : decode m_Lw_law.2.1 416 = .ok (.aload_n 2, 1) := by decide +kernel
theorem d_Lw_law_417 : decode m_Lw_law.2.1 417 = .ok (.aload_n 0, 1) := by decide +kernel
theorem d_Lw_law_418 : decode m_Lw_law.2.1 418 = .ok (.iload_n 3, 1) := by decide +kernel
theorem d_Lw_law_419 : decode m_Lw_law.2.1 419 = .ok (.iconst 1, 1) := by decide +kernel
theorem d_Lw_law_420 : decode m_Lw_law.2.1 420 = .ok (.iadd, 1) := by decide +kernel
theorem d_Lw_law_421 : decode m_Lw_law.2.1 421 = .ok (.iaload, 1) := by decide +kernel
theorem d_Lw_law_422 : decode m_Lw_law.2.1 422 = .ok (.invokevirtual 66, 3) := by decide +kernel
theorem d_Lw_law_425 : decode m_Lw_law.2.1 425 = .ok (.if_icmp .eq 124, 3) := by decide +kernel
theorem d_Lw_law_428 : decode m_Lw_law.2.1 428 = .ok (.iconst 0, 1) := by decide +kernel
theorem d_Lw_law_429 : decode m_Lw_law.2.1 429 = .ok (.ireturn, 1) := by decide +kernel
theorem d_Lw_law_430 : decode m_Lw_law.2.1 430 = .ok (.aload_n 1, 1) := by decide +kernel
theorem d_Lw_law_431 : decode m_Lw_law.2.1 431 = .ok (.aload_n 0, 1) := by decide +kernel
theorem d_Lw_law_432 : decode m_Lw_law.2.1 432 = .ok (.iload_n 3, 1) := by decide +kernel
theorem d_Lw_law_433 : decode m_Lw_law.2.1 433 = .ok (.iconst 1, 1) := by decide +kernel
theorem d_Lw_law_434 : decode m_Lw_law.2.1 434 = .ok (.iadd, 1) := by decide +kernel
theorem d_Lw_law_435 : decode m_Lw_law.2.1 435 = .ok (.iaload, 1) := by decide +kernel
theorem d_Lw_law_436 : decode m_Lw_law.2.1 436 = .ok (.aload_n 0, 1) := by decide +kernel
theorem d_Lw_law_437 : decode m_Lw_law.2.1 437 = .ok (.iload_n 3, 1) := by decide +kernel
theorem d_Lw_law_438 : decode m_Lw_law.2.1 438 = .ok (.iconst 2, 1) := by decide +kernel
theorem d_Lw_law_439 : decode m_Lw_law.2.1 439 = .ok (.iadd, 1) := by decide +kernel
theorem d_Lw_law_440 : decode m_Lw_law.2.1 440 = .ok (.iaload, 1) := by decide +kernel
theorem d_Lw_law_441 : decode m_Lw_law.2.1 441 = .ok (.aload_n 0, 1) := by decide +kernel
theorem d_Lw_law_442 : decode m_Lw_law.2.1 442 = .ok (.iload_n 3, 1) := by decide +kernel
theorem d_Lw_law_443 : decode m_Lw_law.2.1 443 = .ok (.iconst 3, 1) := by decide +kernel
theorem d_Lw_law_444 : decode m_Lw_law.2.1 444 = .ok (.iadd, 1) := by decide +kernel
theorem d_Lw_law_445 : decode m_Lw_law.2.1 445 = .ok (.iaload, 1) := by decide +kernel
theorem d_Lw_law_446 : decode m_Lw_law.2.1 446 = .ok (.invokevirtual 67, 3) := by decide +kernel
theorem d_Lw_law_449 : decode m_Lw_law.2.1 449 = .ok (.aload_n 2, 1) := by decide +kernel
theorem d_Lw_law_450 : decode m_Lw_law.2.1 450 = .ok (.aload_n 0, 1) := by decide +kernel
theorem d_Lw_law_451 : decode m_Lw_law.2.1 451 = .ok (.iload_n 3, 1) := by decide +kernel
theorem d_Lw_law_452 : decode m_Lw_law.2.1 452 = .ok (.iconst 1, 1) := by decide +kernel
theorem d_Lw_law_453 : decode m_Lw_law.2.1 453 = .ok (.iadd, 1) := by decide +kernel
theorem d_Lw_law_454 : decode m_Lw_law.2.1 454 = .ok (.iaload, 1) := by decide +kernel
theorem d_Lw_law_455 : decode m_Lw_law.2.1 455 = .ok (.aload_n 0, 1) := by decide +kernel
theorem d_Lw_law_456 : decode m_Lw_law.2.1 456 = .ok (.iload_n 3, 1) := by decide +kernel
theorem d_Lw_law_457 : decode m_Lw_law.2.1 457 = .ok (.iconst 2, 1) := by decide +kernel
theorem d_Lw_law_458 : decode m_Lw_law.2.1 458 = .ok (.iadd, 1) := by decide +kernel
theorem d_Lw_law_459 : decode m_Lw_law.2.1 459 = .ok (.iaload, 1) := by decide +kernel
theorem d_Lw_law_460 : decode m_Lw_law.2.1 460 = .ok (.aload_n 0, 1) := by decide +kernel
theorem d_Lw_law_461 : decode m_Lw_law.2.1 461 = .ok (.iload_n 3, 1) := by decide +kernel
theorem d_Lw_law_462 : decode m_Lw_law.2.1 462 = .ok (.iconst 3, 1) := by decide +kernel
theorem d_Lw_law_463 : decode m_Lw_law.2.1 463 = .ok (.iadd, 1) := by decide +kernel
theorem d_Lw_law_464 : decode m_Lw_law.2.1 464 = .ok (.iaload, 1) := by decide +kernel
theorem d_Lw_law_465 : decode m_Lw_law.2.1 465 = .ok (.invokevirtual 71, 3) := by decide +kernel
theorem d_Lw_law_468 : decode m_Lw_law.2.1 468 = .ok (.if_icmp .eq 81, 3) := by decide +kernel
theorem d_Lw_law_471 : decode m_Lw_law.2.1 471 = .ok (.iconst 0, 1) := by decide +kernel
theorem d_Lw_law_472 : decode m_Lw_law.2.1 472 = .ok (.ireturn, 1) := by decide +kernel
theorem d_Lw_law_473 : decode m_Lw_law.2.1 473 = .ok (.aload_n 1, 1) := by decide +kernel
theorem d_Lw_law_474 : decode m_Lw_law.2.1 474 = .ok (.aload_n 0, 1) := by decide +kernel
theorem d_Lw_law_475 : decode m_Lw_law.2.1 475 = .ok (.iload_n 3, 1) := by decide +kernel
theorem d_Lw_law_476 : decode m_Lw_law.2.1 476 = .ok (.iconst 1, 1) := by decide +kernel
theorem d_Lw_law_477 : decode m_Lw_law.2.1 477 = .ok (.iadd, 1) := by decide +kernel
theorem d_Lw_law_478 : decode m_Lw_law.2.1 478 = .ok (.iaload, 1) := by decide +kernel
theorem d_Lw_law_479 : decode m_Lw_law.2.1 479 = .ok (.aload_n 0, 1) := by decide +kernel
theorem d_Lw_law_480 : decode m_Lw_law.2.1 480 = .ok (.iload_n 3, 1) := by decide +kernel
theorem d_Lw_law_481 : decode m_Lw_law.2.1 481 = .ok (.iconst 2, 1) := by decide +kernel
theorem d_Lw_law_482 : decode m_Lw_law.2.1 482 = .ok (.iadd, 1) := by decide +kernel
theorem d_Lw_law_483 : decode m_Lw_law.2.1 483 = .ok (.iaload, 1) := by decide +kernel
theorem d_Lw_law_484 : decode m_Lw_law.2.1 484 = .ok (.aload_n 0, 1) := by decide +kernel
theorem d_Lw_law_485 : decode m_Lw_law.2.1 485 = .ok (.iload_n 3, 1) := by decide +kernel
theorem d_Lw_law_486 : decode m_Lw_law.2.1 486 = .ok (.iconst 3, 1) := by decide +kernel
theorem d_Lw_law_487 : decode m_Lw_law.2.1 487 = .ok (.iadd, 1) := by decide +kernel
theorem d_Lw_law_488 : decode m_Lw_law.2.1 488 = .ok (.iaload, 1) := by decide +kernel
theorem d_Lw_law_489 : decode m_Lw_law.2.1 489 = .ok (.invokevirtual 72, 3) := by decide +kernel
theorem d_Lw_law_492 : decode m_Lw_law.2.1 492 = .ok (.aload_n 2, 1) := by decide +kernel
theorem d_Lw_law_493 : decode m_Lw_law.2.1 493 = .ok (.aload_n 0, 1) := by decide +kernel
theorem d_Lw_law_494 : decode m_Lw_law.2.1 494 = .ok (.iload_n 3, 1) := by decide +kernel
theorem d_Lw_law_495 : decode m_Lw_law.2.1 495 = .ok (.iconst 1, 1) := by decide +kernel
theorem d_Lw_law_496 : decode m_Lw_law.2.1 496 = .ok (.iadd, 1) := by decide +kernel
theorem d_Lw_law_497 : decode m_Lw_law.2.1 497 = .ok (.iaload, 1) := by decide +kernel
theorem d_Lw_law_498 : decode m_Lw_law.2.1 498 = .ok (.aload_n 0, 1) := by decide +kernel
theorem d_Lw_law_499 : decode m_Lw_law.2.1 499 = .ok (.iload_n 3, 1) := by decide +kernel
theorem d_Lw_law_500 : decode m_Lw_law.2.1 500 = .ok (.iconst 2, 1) := by decide +kernel
theorem d_Lw_law_501 : decode m_Lw_law.2.1 501 = .ok (.iadd, 1) := by decide +kernel
theorem d_Lw_law_502 : decode m_Lw_law.2.1 502 = .ok (.iaload, 1) := by decide +kernel
theorem d_Lw_law_503 : decode m_Lw_law.2.1 503 = .ok (.aload_n 0, 1) := by decide +kernel
theorem d_Lw_law_504 : decode m_Lw_law.2.1 504 = .ok (.iload_n 3, 1) := by decide +kernel
theorem d_Lw_law_505 : decode m_Lw_law.2.1 505 = .ok (.iconst 3, 1) := by decide +kernel
theorem d_Lw_law_506 : decode m_Lw_law.2.1 506 = .ok (.iadd, 1) := by decide +kernel
theorem d_Lw_law_507 : decode m_Lw_law.2.1 507 = .ok (.iaload, 1) := by decide +kernel
theorem d_Lw_law_508 : decode m_Lw_law.2.1 508 = .ok (.invokevirtual 75, 3) := by decide +kernel
theorem d_Lw_law_511 : decode m_Lw_law.2.1 511 = .ok (.if_icmp .eq 38, 3) := by decide +kernel
theorem d_Lw_law_514 : decode m_Lw_law.2.1 514 = .ok (.iconst 0, 1) := by decide +kernel
theorem d_Lw_law_515 : decode m_Lw_law.2.1 515 = .ok (.ireturn, 1) := by decide +kernel
theorem d_Lw_law_516 : decode m_Lw_law.2.1 516 = .ok (.aload_n 1, 1) := by decide +kernel
theorem d_Lw_law_517 : decode m_Lw_law.2.1 517 = .ok (.aload_n 0, 1) := by decide +kernel
theorem d_Lw_law_518 : decode m_Lw_law.2.1 518 = .ok (.iload_n 3, 1) := by decide +kernel
theorem d_Lw_law_519 : decode m_Lw_law.2.1 519 = .ok (.iconst 1, 1) := by decide +kernel
theorem d_Lw_law_520 : decode m_Lw_law.2.1 520 = .ok (.iadd, 1) := by decide +kernel
theorem d_Lw_law_521 : decode m_Lw_law.2.1 521 = .ok (.iaload, 1) := by decide +kernel
theorem d_Lw_law_522 : decode m_Lw_law.2.1 522 = .ok (.aload_n 0, 1) := by decide +kernel
theorem d_Lw_law_523 : decode m_Lw_law.2.1 523 = .ok (.iload_n 3, 1) := by decide +kernel
theorem d_Lw_law_524 : decode m_Lw_law.2.1 524 = .ok (.iconst 2, 1) := by decide +kernel
theorem d_Lw_law_525 : decode m_Lw_law.2.1 525 = .ok (.iadd, 1) := by decide +kernel
theorem d_Lw_law_526 : decode m_Lw_law.2.1 526 = .ok (.iaload, 1) := by decide +kernel
theorem d_Lw_law_527 : decode m_Lw_law.2.1 527 = .ok (.invokevirtual 76, 3) := by decide +kernel
theorem d_Lw_law_530 : decode m_Lw_law.2.1 530 = .ok (.aload_n 2, 1) := by decide +kernel
theorem d_Lw_law_531 : decode m_Lw_law.2.1 531 = .ok (.aload_n 0, 1) := by decide +kernel
theorem d_Lw_law_532 : decode m_Lw_law.2.1 532 = .ok (.iload_n 3, 1) := by decide +kernel
theorem d_Lw_law_533 : decode m_Lw_law.2.1 533 = .ok (.iconst 1, 1) := by decide +kernel
theorem d_Lw_law_534 : decode m_Lw_law.2.1 534 = .ok (.iadd, 1) := by decide +kernel
theorem d_Lw_law_535 : decode m_Lw_law.2.1 535 = .ok (.iaload, 1) := by decide +kernel
theorem d_Lw_law_536 : decode m_Lw_law.2.1 536 = .ok (.aload_n 0, 1) := by decide +kernel
theorem d_Lw_law_537 : decode m_Lw_law.2.1 537 = .ok (.iload_n 3, 1) := by decide +kernel
theorem d_Lw_law_538 : decode m_Lw_law.2.1 538 = .ok (.iconst 2, 1) := by decide +kernel
theorem d_Lw_law_539 : decode m_Lw_law.2.1 539 = .ok (.iadd, 1) := by decide +kernel
theorem d_Lw_law_540 : decode m_Lw_law.2.1 540 = .ok (.iaload, 1) := by decide +kernel
theorem d_Lw_law_541 : decode m_Lw_law.2.1 541 = .ok (.invokevirtual 79, 3) := by decide +kernel
theorem d_Lw_law_544 : decode m_Lw_law.2.1 544 = .ok (.if_icmp .eq 5, 3) := by decide +kernel
theorem d_Lw_law_547 : decode m_Lw_law.2.1 547 = .ok (.iconst 0, 1) := by decide +kernel
theorem d_Lw_law_548 : decode m_Lw_law.2.1 548 = .ok (.ireturn, 1) := by decide +kernel
theorem d_Lw_law_549 : decode m_Lw_law.2.1 549 = .ok (.iinc 3 7, 3) := by decide +kernel
theorem d_Lw_law_552 : decode m_Lw_law.2.1 552 = .ok (.goto (-524), 3) := by decide +kernel
theorem d_Lw_law_555 : decode m_Lw_law.2.1 555 = .ok (.iconst 1, 1) := by decide +kernel
theorem d_Lw_law_556 : decode m_Lw_law.2.1 556 = .ok (.ireturn, 1) := by decide +kernel
