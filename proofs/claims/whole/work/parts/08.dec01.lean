theorem d_Bc_sendEchoIfDue_44 : decode m_Bc_sendEchoIfDue.2.1 44 = .ok (.aload_n 0, 1) := by decide +kernel
theorem d_Bc_sendEchoIfDue_45 : decode m_Bc_sendEchoIfDue.2.1 45 = .ok (.getfield 84, 3) := by decide +kernel
theorem d_Bc_sendEchoIfDue_48 : decode m_Bc_sendEchoIfDue.2.1 48 = .ok (.invokespecial 90, 3) := by decide +kernel
theorem d_Bc_sendEchoIfDue_51 : decode m_Bc_sendEchoIfDue.2.1 51 = .ok (.invokevirtual 93, 3) := by decide +kernel
theorem d_Bc_sendEchoIfDue_54 : decode m_Bc_sendEchoIfDue.2.1 54 = .ok (.return_, 1) := by decide +kernel
theorem d_Nt_sendToAll_0 : decode m_Nt_sendToAll.2.1 0 = .ok (.iconst 0, 1) := by decide +kernel
theorem d_Nt_sendToAll_1 : decode m_Nt_sendToAll.2.1 1 = .ok (.istore_n 2, 1) := by decide +kernel
theorem d_Nt_sendToAll_2 : decode m_Nt_sendToAll.2.1 2 = .ok (.iload_n 2, 1) := by decide +kernel
theorem d_Nt_sendToAll_3 : decode m_Nt_sendToAll.2.1 3 = .ok (.iconst 4, 1) := by decide +kernel
theorem d_Nt_sendToAll_4 : decode m_Nt_sendToAll.2.1 4 = .ok (.if_icmp .ge 23, 3) := by decide +kernel
theorem d_Nt_sendToAll_7 : decode m_Nt_sendToAll.2.1 7 = .ok (.aload_n 0, 1) := by decide +kernel
theorem d_Nt_sendToAll_8 : decode m_Nt_sendToAll.2.1 8 = .ok (.getfield 11, 3) := by decide +kernel
theorem d_Nt_sendToAll_11 : decode m_Nt_sendToAll.2.1 11 = .ok (.iload_n 2, 1) := by decide +kernel
theorem d_Nt_sendToAll_12 : decode m_Nt_sendToAll.2.1 12 = .ok (.aaload, 1) := by decide +kernel
theorem d_Nt_sendToAll_13 : decode m_Nt_sendToAll.2.1 13 = .ok (.getfield 18, 3) := by decide +kernel
theorem d_Nt_sendToAll_16 : decode m_Nt_sendToAll.2.1 16 = .ok (.aload_n 1, 1) := by decide +kernel
theorem d_Nt_sendToAll_17 : decode m_Nt_sendToAll.2.1 17 = .ok (.invokevirtual 22, 3) := by decide +kernel
theorem d_Nt_sendToAll_20 : decode m_Nt_sendToAll.2.1 20 = .ok (.pop, 1) := by decide +kernel
theorem d_Nt_sendToAll_21 : decode m_Nt_sendToAll.2.1 21 = .ok (.iinc 2 1, 3) := by decide +kernel
theorem d_Nt_sendToAll_24 : decode m_Nt_sendToAll.2.1 24 = .ok (.goto (-22), 3) := by decide +kernel
theorem d_Nt_sendToAll_27 : decode m_Nt_sendToAll.2.1 27 = .ok (.return_, 1) := by decide +kernel
theorem d_Bc_sendReadyIfDue_0 : decode m_Bc_sendReadyIfDue.2.1 0 = .ok (.aload_n 0, 1) := by decide +kernel
theorem d_Bc_sendReadyIfDue_1 : decode m_Bc_sendReadyIfDue.2.1 1 = .ok (.getfield 98, 3) := by decide +kernel
theorem d_Bc_sendReadyIfDue_4 : decode m_Bc_sendReadyIfDue.2.1 4 = .ok (.ifCond .eq 4, 3) := by decide +kernel
theorem d_Bc_sendReadyIfDue_7 : decode m_Bc_sendReadyIfDue.2.1 7 = .ok (.return_, 1) := by decide +kernel
theorem d_Bc_sendReadyIfDue_8 : decode m_Bc_sendReadyIfDue.2.1 8 = .ok (.aload_n 0, 1) := by decide +kernel
theorem d_Bc_sendReadyIfDue_9 : decode m_Bc_sendReadyIfDue.2.1 9 = .ok (.getfield 12, 3) := by decide +kernel
theorem d_Bc_sendReadyIfDue_12 : decode m_Bc_sendReadyIfDue.2.1 12 = .ok (.iconst 3, 1) := by decide +kernel
theorem d_Bc_sendReadyIfDue_13 : decode m_Bc_sendReadyIfDue.2.1 13 = .ok (.invokevirtual 101, 3) := by decide +kernel
theorem d_Bc_sendReadyIfDue_16 : decode m_Bc_sendReadyIfDue.2.1 16 = .ok (.istore_n 1, 1) := by decide +kernel
theorem d_Bc_sendReadyIfDue_17 : decode m_Bc_sendReadyIfDue.2.1 17 = .ok (.iload_n 1, 1) := by decide +kernel
theorem d_Bc_sendReadyIfDue_18 : decode m_Bc_sendReadyIfDue.2.1 18 = .ok (.iconst (-1), 1) := by decide +kernel
theorem d_Bc_sendReadyIfDue_19 : decode m_Bc_sendReadyIfDue.2.1 19 = .ok (.if_icmp .eq 38, 3) := by decide +kernel
theorem d_Bc_sendReadyIfDue_22 : decode m_Bc_sendReadyIfDue.2.1 22 = .ok (.aload_n 0, 1) := by decide +kernel
theorem d_Bc_sendReadyIfDue_23 : decode m_Bc_sendReadyIfDue.2.1 23 = .ok (.getfield 12, 3) := by decide +kernel
theorem d_Bc_sendReadyIfDue_26 : decode m_Bc_sendReadyIfDue.2.1 26 = .ok (.getfield 105, 3) := by decide +kernel
theorem d_Bc_sendReadyIfDue_29 : decode m_Bc_sendReadyIfDue.2.1 29 = .ok (.iload_n 1, 1) := by decide +kernel
theorem d_Bc_sendReadyIfDue_30 : decode m_Bc_sendReadyIfDue.2.1 30 = .ok (.iaload, 1) := by decide +kernel
theorem d_Bc_sendReadyIfDue_31 : decode m_Bc_sendReadyIfDue.2.1 31 = .ok (.istore_n 2, 1) := by decide +kernel
theorem d_Bc_sendReadyIfDue_32 : decode m_Bc_sendReadyIfDue.2.1 32 = .ok (.aload_n 0, 1) := by decide +kernel
theorem d_Bc_sendReadyIfDue_33 : decode m_Bc_sendReadyIfDue.2.1 33 = .ok (.aload_n 0, 1) := by decide +kernel
theorem d_Bc_sendReadyIfDue_34 : decode m_Bc_sendReadyIfDue.2.1 34 = .ok (.getfield 12, 3) := by decide +kernel
theorem d_Bc_sendReadyIfDue_37 : decode m_Bc_sendReadyIfDue.2.1 37 = .ok (.iload_n 2, 1) := by decide +kernel
theorem d_Bc_sendReadyIfDue_38 : decode m_Bc_sendReadyIfDue.2.1 38 = .ok (.invokevirtual 108, 3) := by decide +kernel
theorem d_Bc_sendReadyIfDue_41 : decode m_Bc_sendReadyIfDue.2.1 41 = .ok (.invokevirtual 111, 3) := by decide +kernel
theorem d_Bc_sendReadyIfDue_44 : decode m_Bc_sendReadyIfDue.2.1 44 = .ok (.invokestatic 114, 3) := by decide +kernel
theorem d_Bc_sendReadyIfDue_47 : decode m_Bc_sendReadyIfDue.2.1 47 = .ok (.iload_n 2, 1) := by decide +kernel
theorem d_Bc_sendReadyIfDue_48 : decode m_Bc_sendReadyIfDue.2.1 48 = .ok (.if_icmp .ne 9, 3) := by decide +kernel
theorem d_Bc_sendReadyIfDue_51 : decode m_Bc_sendReadyIfDue.2.1 51 = .ok (.aload_n 0, 1) := by decide +kernel
theorem d_Bc_sendReadyIfDue_52 : decode m_Bc_sendReadyIfDue.2.1 52 = .ok (.iload_n 2, 1) := by decide +kernel
theorem d_Bc_sendReadyIfDue_53 : decode m_Bc_sendReadyIfDue.2.1 53 = .ok (.invokevirtual 117, 3) := by decide +kernel
theorem d_Bc_sendReadyIfDue_56 : decode m_Bc_sendReadyIfDue.2.1 56 = .ok (.return_, 1) := by decide +kernel
theorem d_Bc_sendReadyIfDue_57 : decode m_Bc_sendReadyIfDue.2.1 57 = .ok (.aload_n 0, 1) := by decide +kernel
theorem d_Bc_sendReadyIfDue_58 : decode m_Bc_sendReadyIfDue.2.1 58 = .ok (.getfield 22, 3) := by decide +kernel
theorem d_Bc_sendReadyIfDue_61 : decode m_Bc_sendReadyIfDue.2.1 61 = .ok (.iconst 2, 1) := by decide +kernel
theorem d_Bc_sendReadyIfDue_62 : decode m_Bc_sendReadyIfDue.2.1 62 = .ok (.invokevirtual 101, 3) := by decide +kernel
theorem d_Bc_sendReadyIfDue_65 : decode m_Bc_sendReadyIfDue.2.1 65 = .ok (.istore_n 2, 1) := by decide +kernel
theorem d_Bc_sendReadyIfDue_66 : decode m_Bc_sendReadyIfDue.2.1 66 = .ok (.iload_n 2, 1) := by decide +kernel
theorem d_Bc_sendReadyIfDue_67 : decode m_Bc_sendReadyIfDue.2.1 67 = .ok (.iconst (-1), 1) := by decide +kernel
theorem d_Bc_sendReadyIfDue_68 : decode m_Bc_sendReadyIfDue.2.1 68 = .ok (.if_icmp .eq 16, 3) := by decide +kernel
theorem d_Bc_sendReadyIfDue_71 : decode m_Bc_sendReadyIfDue.2.1 71 = .ok (.aload_n 0, 1) := by decide +kernel
theorem d_Bc_sendReadyIfDue_72 : decode m_Bc_sendReadyIfDue.2.1 72 = .ok (.aload_n 0, 1) := by decide +kernel
theorem d_Bc_sendReadyIfDue_73 : decode m_Bc_sendReadyIfDue.2.1 73 = .ok (.getfield 22, 3) := by decide +kernel
theorem d_Bc_sendReadyIfDue_76 : decode m_Bc_sendReadyIfDue.2.1 76 = .ok (.getfield 105, 3) := by decide +kernel
theorem d_Bc_sendReadyIfDue_79 : decode m_Bc_sendReadyIfDue.2.1 79 = .ok (.iload_n 2, 1) := by decide +kernel
theorem d_Bc_sendReadyIfDue_80 : decode m_Bc_sendReadyIfDue.2.1 80 = .ok (.iaload, 1) := by decide +kernel
theorem d_Bc_sendReadyIfDue_81 : decode m_Bc_sendReadyIfDue.2.1 81 = .ok (.invokevirtual 117, 3) := by decide +kernel
theorem d_Bc_sendReadyIfDue_84 : decode m_Bc_sendReadyIfDue.2.1 84 = .ok (.return_, 1) := by decide +kernel
theorem d_Rt_leastOfShared_0 : decode m_Rt_leastOfShared.2.1 0 = .ok (.iconst 0, 1) := by decide +kernel
theorem d_Rt_leastOfShared_1 : decode m_Rt_leastOfShared.2.1 1 = .ok (.istore_n 2, 1) := by decide +kernel
theorem d_Rt_leastOfShared_2 : decode m_Rt_leastOfShared.2.1 2 = .ok (.iload_n 2, 1) := by decide +kernel
theorem d_Rt_leastOfShared_3 : decode m_Rt_leastOfShared.2.1 3 = .ok (.iconst 4, 1) := by decide +kernel
theorem d_Rt_leastOfShared_4 : decode m_Rt_leastOfShared.2.1 4 = .ok (.if_icmp .ge 36, 3) := by decide +kernel
theorem d_Rt_leastOfShared_7 : decode m_Rt_leastOfShared.2.1 7 = .ok (.aload_n 0, 1) := by decide +kernel
theorem d_Rt_leastOfShared_8 : decode m_Rt_leastOfShared.2.1 8 = .ok (.iload_n 2, 1) := by decide +kernel
theorem d_Rt_leastOfShared_9 : decode m_Rt_leastOfShared.2.1 9 = .ok (.invokevirtual 19, 3) := by decide +kernel
theorem d_Rt_leastOfShared_12 : decode m_Rt_leastOfShared.2.1 12 = .ok (.ifCond .eq 22, 3) := by decide +kernel
theorem d_Rt_leastOfShared_15 : decode m_Rt_leastOfShared.2.1 15 = .ok (.aload_n 0, 1) := by decide +kernel
theorem d_Rt_leastOfShared_16 : decode m_Rt_leastOfShared.2.1 16 = .ok (.aload_n 0, 1) := by decide +kernel
theorem d_Rt_leastOfShared_17 : decode m_Rt_leastOfShared.2.1 17 = .ok (.getfield 9, 3) := by decide +kernel
theorem d_Rt_leastOfShared_20 : decode m_Rt_leastOfShared.2.1 20 = .ok (.iload_n 2, 1) := by decide +kernel
theorem d_Rt_leastOfShared_21 : decode m_Rt_leastOfShared.2.1 21 = .ok (.iaload, 1) := by decide +kernel
theorem d_Rt_leastOfShared_22 : decode m_Rt_leastOfShared.2.1 22 = .ok (.invokevirtual 23, 3) := by decide +kernel
theorem d_Rt_leastOfShared_25 : decode m_Rt_leastOfShared.2.1 25 = .ok (.invokestatic 27, 3) := by decide +kernel
theorem d_Rt_leastOfShared_28 : decode m_Rt_leastOfShared.2.1 28 = .ok (.iload_n 1, 1) := by decide +kernel
theorem d_Rt_leastOfShared_29 : decode m_Rt_leastOfShared.2.1 29 = .ok (.if_icmp .lt 5, 3) := by decide +kernel
theorem d_Rt_leastOfShared_32 : decode m_Rt_leastOfShared.2.1 32 = .ok (.iload_n 2, 1) := by decide +kernel
theorem d_Rt_leastOfShared_33 : decode m_Rt_leastOfShared.2.1 33 = .ok (.ireturn, 1) := by decide +kernel
theorem d_Rt_leastOfShared_34 : decode m_Rt_leastOfShared.2.1 34 = .ok (.iinc 2 1, 3) := by decide +kernel
theorem d_Rt_leastOfShared_37 : decode m_Rt_leastOfShared.2.1 37 = .ok (.goto (-35), 3) := by decide +kernel
theorem d_Rt_leastOfShared_40 : decode m_Rt_leastOfShared.2.1 40 = .ok (.iconst (-1), 1) := by decide +kernel
theorem d_Rt_leastOfShared_41 : decode m_Rt_leastOfShared.2.1 41 = .ok (.ireturn, 1) := by decide +kernel
theorem d_Rt_isFrom_0 : decode m_Rt_isFrom.2.1 0 = .ok (.aload_n 0, 1) := by decide +kernel
theorem d_Rt_isFrom_1 : decode m_Rt_isFrom.2.1 1 = .ok (.getfield 15, 3) := by decide +kernel
theorem d_Rt_isFrom_4 : decode m_Rt_isFrom.2.1 4 = .ok (.iload_n 1, 1) := by decide +kernel
theorem d_Rt_isFrom_5 : decode m_Rt_isFrom.2.1 5 = .ok (.ishr, 1) := by decide +kernel
theorem d_Rt_isFrom_6 : decode m_Rt_isFrom.2.1 6 = .ok (.iconst 1, 1) := by decide +kernel
theorem d_Rt_isFrom_7 : decode m_Rt_isFrom.2.1 7 = .ok (.iand, 1) := by decide +kernel
theorem d_Rt_isFrom_8 : decode m_Rt_isFrom.2.1 8 = .ok (.iconst 1, 1) := by decide +kernel
theorem d_Rt_isFrom_9 : decode m_Rt_isFrom.2.1 9 = .ok (.if_icmp .ne 7, 3) := by decide +kernel
theorem d_Rt_isFrom_12 : decode m_Rt_isFrom.2.1 12 = .ok (.iconst 1, 1) := by decide +kernel
theorem d_Rt_isFrom_13 : decode m_Rt_isFrom.2.1 13 = .ok (.goto 4, 3) := by decide +kernel
theorem d_Rt_isFrom_16 : decode m_Rt_isFrom.2.1 16 = .ok (.iconst 0, 1) := by decide +kernel
theorem d_Rt_isFrom_17 : decode m_Rt_isFrom.2.1 17 = .ok (.ireturn, 1) := by decide +kernel
theorem d_Rt_sendersOf_0 : decode m_Rt_sendersOf.2.1 0 = .ok (.iconst 0, 1) := by decide +kernel
theorem d_Rt_sendersOf_1 : decode m_Rt_sendersOf.2.1 1 = .ok (.istore_n 2, 1) := by decide +kernel
theorem d_Rt_sendersOf_2 : decode m_Rt_sendersOf.2.1 2 = .ok (.iconst 0, 1) := by decide +kernel
theorem d_Rt_sendersOf_3 : decode m_Rt_sendersOf.2.1 3 = .ok (.istore_n 3, 1) := by decide +kernel
theorem d_Rt_sendersOf_4 : decode m_Rt_sendersOf.2.1 4 = .ok (.iload_n 3, 1) := by decide +kernel
theorem d_Rt_sendersOf_5 : decode m_Rt_sendersOf.2.1 5 = .ok (.iconst 4, 1) := by decide +kernel
theorem d_Rt_sendersOf_6 : decode m_Rt_sendersOf.2.1 6 = .ok (.if_icmp .ge 33, 3) := by decide +kernel
theorem d_Rt_sendersOf_9 : decode m_Rt_sendersOf.2.1 9 = .ok (.aload_n 0, 1) := by decide +kernel
theorem d_Rt_sendersOf_10 : decode m_Rt_sendersOf.2.1 10 = .ok (.iload_n 3, 1) := by decide +kernel
theorem d_Rt_sendersOf_11 : decode m_Rt_sendersOf.2.1 11 = .ok (.invokevirtual 19, 3) := by decide +kernel
theorem d_Rt_sendersOf_14 : decode m_Rt_sendersOf.2.1 14 = .ok (.ifCond .eq 19, 3) := by decide +kernel
theorem d_Rt_sendersOf_17 : decode m_Rt_sendersOf.2.1 17 = .ok (.aload_n 0, 1) := by decide +kernel
theorem d_Rt_sendersOf_18 : decode m_Rt_sendersOf.2.1 18 = .ok (.getfield 9, 3) := by decide +kernel
theorem d_Rt_sendersOf_21 : decode m_Rt_sendersOf.2.1 21 = .ok (.iload_n 3, 1) := by decide +kernel
theorem d_Rt_sendersOf_22 : decode m_Rt_sendersOf.2.1 22 = .ok (.iaload, 1) := by decide +kernel
theorem d_Rt_sendersOf_23 : decode m_Rt_sendersOf.2.1 23 = .ok (.iload_n 1, 1) := by decide +kernel
theorem d_Rt_sendersOf_24 : decode m_Rt_sendersOf.2.1 24 = .ok (.if_icmp .ne 9, 3) := by decide +kernel
theorem d_Rt_sendersOf_27 : decode m_Rt_sendersOf.2.1 27 = .ok (.iload_n 2, 1) := by decide +kernel
theorem d_Rt_sendersOf_28 : decode m_Rt_sendersOf.2.1 28 = .ok (.iconst 1, 1) := by decide +kernel
theorem d_Rt_sendersOf_29 : decode m_Rt_sendersOf.2.1 29 = .ok (.iload_n 3, 1) := by decide +kernel
theorem d_Rt_sendersOf_30 : decode m_Rt_sendersOf.2.1 30 = .ok (.ishl, 1) := by decide +kernel
theorem d_Rt_sendersOf_31 : decode m_Rt_sendersOf.2.1 31 = .ok (.ior, 1) := by decide +kernel
theorem d_Rt_sendersOf_32 : decode m_Rt_sendersOf.2.1 32 = .ok (.istore_n 2, 1) := by decide +kernel
theorem d_Rt_sendersOf_33 : decode m_Rt_sendersOf.2.1 33 = .ok (.iinc 3 1, 3) := by decide +kernel
theorem d_Rt_sendersOf_36 : decode m_Rt_sendersOf.2.1 36 = .ok (.goto (-32), 3) := by decide +kernel
theorem d_Rt_sendersOf_39 : decode m_Rt_sendersOf.2.1 39 = .ok (.iload_n 2, 1) := by decide +kernel
theorem d_Rt_sendersOf_40 : decode m_Rt_sendersOf.2.1 40 = .ok (.ireturn, 1) := by decide +kernel
theorem d_It_bitCount_0 : decode m_It_bitCount.2.1 0 = .ok (.iload_n 0, 1) := by decide +kernel
theorem d_It_bitCount_1 : decode m_It_bitCount.2.1 1 = .ok (.iload_n 0, 1) := by decide +kernel
theorem d_It_bitCount_2 : decode m_It_bitCount.2.1 2 = .ok (.iconst 1, 1) := by decide +kernel
theorem d_It_bitCount_3 : decode m_It_bitCount.2.1 3 = .ok (.iushr, 1) := by decide +kernel
theorem d_It_bitCount_4 : decode m_It_bitCount.2.1 4 = .ok (.ldc_w 265, 3) := by decide +kernel
theorem d_It_bitCount_7 : decode m_It_bitCount.2.1 7 = .ok (.iand, 1) := by decide +kernel
theorem d_It_bitCount_8 : decode m_It_bitCount.2.1 8 = .ok (.isub, 1) := by decide +kernel
theorem d_It_bitCount_9 : decode m_It_bitCount.2.1 9 = .ok (.istore_n 0, 1) := by decide +kernel
theorem d_It_bitCount_10 : decode m_It_bitCount.2.1 10 = .ok (.iload_n 0, 1) := by decide +kernel
theorem d_It_bitCount_11 : decode m_It_bitCount.2.1 11 = .ok (.ldc_w 266, 3) := by decide +kernel
theorem d_It_bitCount_14 : decode m_It_bitCount.2.1 14 = .ok (.iand, 1) := by decide +kernel
theorem d_It_bitCount_15 : decode m_It_bitCount.2.1 15 = .ok (.iload_n 0, 1) := by decide +kernel
theorem d_It_bitCount_16 : decode m_It_bitCount.2.1 16 = .ok (.iconst 2, 1) := by decide +kernel
theorem d_It_bitCount_17 : decode m_It_bitCount.2.1 17 = .ok (.iushr, 1) := by decide +kernel
theorem d_It_bitCount_18 : decode m_It_bitCount.2.1 18 = .ok (.ldc_w 266, 3) := by decide +kernel
theorem d_It_bitCount_21 : decode m_It_bitCount.2.1 21 = .ok (.iand, 1) := by decide +kernel
theorem d_It_bitCount_22 : decode m_It_bitCount.2.1 22 = .ok (.iadd, 1) := by decide +kernel
theorem d_It_bitCount_23 : decode m_It_bitCount.2.1 23 = .ok (.istore_n 0, 1) := by decide +kernel
theorem d_It_bitCount_24 : decode m_It_bitCount.2.1 24 = .ok (.iload_n 0, 1) := by decide +kernel
theorem d_It_bitCount_25 : decode m_It_bitCount.2.1 25 = .ok (.iload_n 0, 1) := by decide +kernel
theorem d_It_bitCount_26 : decode m_It_bitCount.2.1 26 = .ok (.iconst 4, 1) := by decide +kernel
theorem d_It_bitCount_27 : decode m_It_bitCount.2.1 27 = .ok (.iushr, 1) := by decide +kernel
theorem d_It_bitCount_28 : decode m_It_bitCount.2.1 28 = .ok (.iadd, 1) := by decide +kernel
theorem d_It_bitCount_29 : decode m_It_bitCount.2.1 29 = .ok (.ldc_w 267, 3) := by decide +kernel
theorem d_It_bitCount_32 : decode m_It_bitCount.2.1 32 = .ok (.iand, 1) := by decide +kernel
theorem d_It_bitCount_33 : decode m_It_bitCount.2.1 33 = .ok (.istore_n 0, 1) := by decide +kernel
theorem d_It_bitCount_34 : decode m_It_bitCount.2.1 34 = .ok (.iload_n 0, 1) := by decide +kernel
theorem d_It_bitCount_35 : decode m_It_bitCount.2.1 35 = .ok (.iload_n 0, 1) := by decide +kernel
theorem d_It_bitCount_36 : decode m_It_bitCount.2.1 36 = .ok (.bipush 8, 2) := by decide +kernel
theorem d_It_bitCount_38 : decode m_It_bitCount.2.1 38 = .ok (.iushr, 1) := by decide +kernel
theorem d_It_bitCount_39 : decode m_It_bitCount.2.1 39 = .ok (.iadd, 1) := by decide +kernel
theorem d_It_bitCount_40 : decode m_It_bitCount.2.1 40 = .ok (.istore_n 0, 1) := by decide +kernel
theorem d_It_bitCount_41 : decode m_It_bitCount.2.1 41 = .ok (.iload_n 0, 1) := by decide +kernel
theorem d_It_bitCount_42 : decode m_It_bitCount.2.1 42 = .ok (.iload_n 0, 1) := by decide +kernel
theorem d_It_bitCount_43 : decode m_It_bitCount.2.1 43 = .ok (.bipush 16, 2) := by decide +kernel
theorem d_It_bitCount_45 : decode m_It_bitCount.2.1 45 = .ok (.iushr, 1) := by decide +kernel
theorem d_It_bitCount_46 : decode m_It_bitCount.2.1 46 = .ok (.iadd, 1) := by decide +kernel
theorem d_It_bitCount_47 : decode m_It_bitCount.2.1 47 = .ok (.istore_n 0, 1) := by decide +kernel
theorem d_It_bitCount_48 : decode m_It_bitCount.2.1 48 = .ok (.iload_n 0, 1) := by decide +kernel
theorem d_It_bitCount_49 : decode m_It_bitCount.2.1 49 = .ok (.bipush 63, 2) := by decide +kernel
theorem d_It_bitCount_51 : decode m_It_bitCount.2.1 51 = .ok (.iand, 1) := by decide +kernel
theorem d_It_bitCount_52 : decode m_It_bitCount.2.1 52 = .ok (.ireturn, 1) := by decide +kernel
theorem d_Bc_proposalOf_0 : decode m_Bc_proposalOf.2.1 0 = .ok (.iconst (-1), 1) := by decide +kernel
theorem d_Bc_proposalOf_1 : decode m_Bc_proposalOf.2.1 1 = .ok (.istore_n 2, 1) := by decide +kernel
theorem d_Bc_proposalOf_2 : decode m_Bc_proposalOf.2.1 2 = .ok (.iconst 0, 1) := by decide +kernel
theorem d_Bc_proposalOf_3 : decode m_Bc_proposalOf.2.1 3 = .ok (.istore_n 3, 1) := by decide +kernel
theorem d_Bc_proposalOf_4 : decode m_Bc_proposalOf.2.1 4 = .ok (.iload_n 3, 1) := by decide +kernel
theorem d_Bc_proposalOf_5 : decode m_Bc_proposalOf.2.1 5 = .ok (.iconst 4, 1) := by decide +kernel
theorem d_Bc_proposalOf_6 : decode m_Bc_proposalOf.2.1 6 = .ok (.if_icmp .ge 43, 3) := by decide +kernel
theorem d_Bc_proposalOf_9 : decode m_Bc_proposalOf.2.1 9 = .ok (.iload_n 1, 1) := by decide +kernel
theorem d_Bc_proposalOf_10 : decode m_Bc_proposalOf.2.1 10 = .ok (.iload_n 3, 1) := by decide +kernel
theorem d_Bc_proposalOf_11 : decode m_Bc_proposalOf.2.1 11 = .ok (.ishr, 1) := by decide +kernel
theorem d_Bc_proposalOf_12 : decode m_Bc_proposalOf.2.1 12 = .ok (.iconst 1, 1) := by decide +kernel
theorem d_Bc_proposalOf_13 : decode m_Bc_proposalOf.2.1 13 = .ok (.iand, 1) := by decide +kernel
theorem d_Bc_proposalOf_14 : decode m_Bc_proposalOf.2.1 14 = .ok (.iconst 1, 1) := by decide +kernel
theorem d_Bc_proposalOf_15 : decode m_Bc_proposalOf.2.1 15 = .ok (.if_icmp .ne 28, 3) := by decide +kernel
theorem d_Bc_proposalOf_18 : decode m_Bc_proposalOf.2.1 18 = .ok (.iload_n 2, 1) := by decide +kernel
theorem d_Bc_proposalOf_19 : decode m_Bc_proposalOf.2.1 19 = .ok (.iconst (-1), 1) := by decide +kernel
theorem d_Bc_proposalOf_20 : decode m_Bc_proposalOf.2.1 20 = .ok (.if_icmp .eq 21, 3) := by decide +kernel
theorem d_Bc_proposalOf_23 : decode m_Bc_proposalOf.2.1 23 = .ok (.iload_n 2, 1) := by decide +kernel
theorem d_Bc_proposalOf_24 : decode m_Bc_proposalOf.2.1 24 = .ok (.aload_n 0, 1) := by decide +kernel
theorem d_Bc_proposalOf_25 : decode m_Bc_proposalOf.2.1 25 = .ok (.getfield 18, 3) := by decide +kernel
theorem d_Bc_proposalOf_28 : decode m_Bc_proposalOf.2.1 28 = .ok (.iload_n 2, 1) := by decide +kernel
theorem d_Bc_proposalOf_29 : decode m_Bc_proposalOf.2.1 29 = .ok (.iaload, 1) := by decide +kernel
theorem d_Bc_proposalOf_30 : decode m_Bc_proposalOf.2.1 30 = .ok (.iload_n 3, 1) := by decide +kernel
theorem d_Bc_proposalOf_31 : decode m_Bc_proposalOf.2.1 31 = .ok (.aload_n 0, 1) := by decide +kernel
theorem d_Bc_proposalOf_32 : decode m_Bc_proposalOf.2.1 32 = .ok (.getfield 18, 3) := by decide +kernel
theorem d_Bc_proposalOf_35 : decode m_Bc_proposalOf.2.1 35 = .ok (.iload_n 3, 1) := by decide +kernel
theorem d_Bc_proposalOf_36 : decode m_Bc_proposalOf.2.1 36 = .ok (.iaload, 1) := by decide +kernel
theorem d_Bc_proposalOf_37 : decode m_Bc_proposalOf.2.1 37 = .ok (.invokestatic 126, 3) := by decide +kernel
theorem d_Bc_proposalOf_40 : decode m_Bc_proposalOf.2.1 40 = .ok (.ireturn, 1) := by decide +kernel
theorem d_Bc_proposalOf_41 : decode m_Bc_proposalOf.2.1 41 = .ok (.iload_n 3, 1) := by decide +kernel
theorem d_Bc_proposalOf_42 : decode m_Bc_proposalOf.2.1 42 = .ok (.istore_n 2, 1) := by decide +kernel
theorem d_Bc_proposalOf_43 : decode m_Bc_proposalOf.2.1 43 = .ok (.iinc 3 1, 3) := by decide +kernel
theorem d_Bc_proposalOf_46 : decode m_Bc_proposalOf.2.1 46 = .ok (.goto (-42), 3) := by decide +kernel
theorem d_Bc_proposalOf_49 : decode m_Bc_proposalOf.2.1 49 = .ok (.iconst 0, 1) := by decide +kernel
theorem d_Bc_proposalOf_50 : decode m_Bc_proposalOf.2.1 50 = .ok (.ireturn, 1) := by decide +kernel
theorem d_Co_proposalWith_0 : decode m_Co_proposalWith.2.1 0 = .ok (.getstatic 29, 3) := by decide +kernel
theorem d_Co_proposalWith_3 : decode m_Co_proposalWith.2.1 3 = .ok (.iload_n 0, 1) := by decide +kernel
theorem d_Co_proposalWith_4 : decode m_Co_proposalWith.2.1 4 = .ok (.iload_n 2, 1) := by decide +kernel
theorem d_Co_proposalWith_5 : decode m_Co_proposalWith.2.1 5 = .ok (.ixor, 1) := by decide +kernel
theorem d_Co_proposalWith_6 : decode m_Co_proposalWith.2.1 6 = .ok (.iconst 3, 1) := by decide +kernel
theorem d_Co_proposalWith_7 : decode m_Co_proposalWith.2.1 7 = .ok (.iand, 1) := by decide +kernel
theorem d_Co_proposalWith_8 : decode m_Co_proposalWith.2.1 8 = .ok (.iaload, 1) := by decide +kernel
theorem d_Co_proposalWith_9 : decode m_Co_proposalWith.2.1 9 = .ok (.iload_n 1, 1) := by decide +kernel
theorem d_Co_proposalWith_10 : decode m_Co_proposalWith.2.1 10 = .ok (.iload_n 3, 1) := by decide +kernel
theorem d_Co_proposalWith_11 : decode m_Co_proposalWith.2.1 11 = .ok (.ixor, 1) := by decide +kernel
theorem d_Co_proposalWith_12 : decode m_Co_proposalWith.2.1 12 = .ok (.invokestatic 11, 3) := by decide +kernel
theorem d_Co_proposalWith_15 : decode m_Co_proposalWith.2.1 15 = .ok (.istore 4, 2) := by decide +kernel
theorem d_Co_proposalWith_17 : decode m_Co_proposalWith.2.1 17 = .ok (.iload_n 1, 1) := by decide +kernel
theorem d_Co_proposalWith_18 : decode m_Co_proposalWith.2.1 18 = .ok (.iload_n 0, 1) := by decide +kernel
theorem d_Co_proposalWith_19 : decode m_Co_proposalWith.2.1 19 = .ok (.iload 4, 2) := by decide +kernel
theorem d_Co_proposalWith_21 : decode m_Co_proposalWith.2.1 21 = .ok (.invokestatic 11, 3) := by decide +kernel
theorem d_Co_proposalWith_24 : decode m_Co_proposalWith.2.1 24 = .ok (.ixor, 1) := by decide +kernel
theorem d_Co_proposalWith_25 : decode m_Co_proposalWith.2.1 25 = .ok (.istore 5, 2) := by decide +kernel
theorem d_Co_proposalWith_27 : decode m_Co_proposalWith.2.1 27 = .ok (.iload 5, 2) := by decide +kernel
theorem d_Co_proposalWith_29 : decode m_Co_proposalWith.2.1 29 = .ok (.iload 5, 2) := by decide +kernel
theorem d_Co_proposalWith_31 : decode m_Co_proposalWith.2.1 31 = .ok (.iload 4, 2) := by decide +kernel
theorem d_Co_proposalWith_33 : decode m_Co_proposalWith.2.1 33 = .ok (.ixor, 1) := by decide +kernel
theorem d_Co_proposalWith_34 : decode m_Co_proposalWith.2.1 34 = .ok (.invokestatic 33, 3) := by decide +kernel
theorem d_Co_proposalWith_37 : decode m_Co_proposalWith.2.1 37 = .ok (.ireturn, 1) := by decide +kernel
theorem d_Bc_sendReady_0 : decode m_Bc_sendReady.2.1 0 = .ok (.aload_n 0, 1) := by decide +kernel
theorem d_Bc_sendReady_1 : decode m_Bc_sendReady.2.1 1 = .ok (.iconst 1, 1) := by decide +kernel
theorem d_Bc_sendReady_2 : decode m_Bc_sendReady.2.1 2 = .ok (.putfield 98, 3) := by decide +kernel
theorem d_Bc_sendReady_5 : decode m_Bc_sendReady.2.1 5 = .ok (.aload_n 0, 1) := by decide +kernel
theorem d_Bc_sendReady_6 : decode m_Bc_sendReady.2.1 6 = .ok (.getfield 29, 3) := by decide +kernel
theorem d_Bc_sendReady_9 : decode m_Bc_sendReady.2.1 9 = .ok (.new 43, 3) := by decide +kernel
theorem d_Bc_sendReady_12 : decode m_Bc_sendReady.2.1 12 = .ok (.dup, 1) := by decide +kernel
theorem d_Bc_sendReady_13 : decode m_Bc_sendReady.2.1 13 = .ok (.aload_n 0, 1) := by decide +kernel
theorem d_Bc_sendReady_14 : decode m_Bc_sendReady.2.1 14 = .ok (.getfield 33, 3) := by decide +kernel
theorem d_Bc_sendReady_17 : decode m_Bc_sendReady.2.1 17 = .ok (.aload_n 0, 1) := by decide +kernel
theorem d_Bc_sendReady_18 : decode m_Bc_sendReady.2.1 18 = .ok (.getfield 36, 3) := by decide +kernel
theorem d_Bc_sendReady_21 : decode m_Bc_sendReady.2.1 21 = .ok (.aload_n 0, 1) := by decide +kernel
theorem d_Bc_sendReady_22 : decode m_Bc_sendReady.2.1 22 = .ok (.getfield 39, 3) := by decide +kernel
theorem d_Bc_sendReady_25 : decode m_Bc_sendReady.2.1 25 = .ok (.iconst 2, 1) := by decide +kernel
theorem d_Bc_sendReady_26 : decode m_Bc_sendReady.2.1 26 = .ok (.iload_n 1, 1) := by decide +kernel
theorem d_Bc_sendReady_27 : decode m_Bc_sendReady.2.1 27 = .ok (.iconst 0, 1) := by decide +kernel
theorem d_Bc_sendReady_28 : decode m_Bc_sendReady.2.1 28 = .ok (.invokespecial 90, 3) := by decide +kernel
theorem d_Bc_sendReady_31 : decode m_Bc_sendReady.2.1 31 = .ok (.invokevirtual 93, 3) := by decide +kernel
theorem d_Bc_sendReady_34 : decode m_Bc_sendReady.2.1 34 = .ok (.return_, 1) := by decide +kernel
theorem d_Bc_takeProposalIfDue_0 : decode m_Bc_takeProposalIfDue.2.1 0 = .ok (.aload_n 0, 1) := by decide +kernel
theorem d_Bc_takeProposalIfDue_1 : decode m_Bc_takeProposalIfDue.2.1 1 = .ok (.getfield 25, 3) := by decide +kernel
theorem d_Bc_takeProposalIfDue_4 : decode m_Bc_takeProposalIfDue.2.1 4 = .ok (.iconst (-1), 1) := by decide +kernel
theorem d_Bc_takeProposalIfDue_5 : decode m_Bc_takeProposalIfDue.2.1 5 = .ok (.if_icmp .eq 4, 3) := by decide +kernel
theorem d_Bc_takeProposalIfDue_8 : decode m_Bc_takeProposalIfDue.2.1 8 = .ok (.return_, 1) := by decide +kernel
theorem d_Bc_takeProposalIfDue_9 : decode m_Bc_takeProposalIfDue.2.1 9 = .ok (.aload_n 0, 1) := by decide +kernel
theorem d_Bc_takeProposalIfDue_10 : decode m_Bc_takeProposalIfDue.2.1 10 = .ok (.getfield 22, 3) := by decide +kernel
theorem d_Bc_takeProposalIfDue_13 : decode m_Bc_takeProposalIfDue.2.1 13 = .ok (.iconst 3, 1) := by decide +kernel
theorem d_Bc_takeProposalIfDue_14 : decode m_Bc_takeProposalIfDue.2.1 14 = .ok (.invokevirtual 101, 3) := by decide +kernel
theorem d_Bc_takeProposalIfDue_17 : decode m_Bc_takeProposalIfDue.2.1 17 = .ok (.istore_n 1, 1) := by decide +kernel
theorem d_Bc_takeProposalIfDue_18 : decode m_Bc_takeProposalIfDue.2.1 18 = .ok (.iload_n 1, 1) := by decide +kernel
theorem d_Bc_takeProposalIfDue_19 : decode m_Bc_takeProposalIfDue.2.1 19 = .ok (.iconst (-1), 1) := by decide +kernel
theorem d_Bc_takeProposalIfDue_20 : decode m_Bc_takeProposalIfDue.2.1 20 = .ok (.if_icmp .ne 4, 3) := by decide +kernel
theorem d_Bc_takeProposalIfDue_23 : decode m_Bc_takeProposalIfDue.2.1 23 = .ok (.return_, 1) := by decide +kernel
theorem d_Bc_takeProposalIfDue_24 : decode m_Bc_takeProposalIfDue.2.1 24 = .ok (.aload_n 0, 1) := by decide +kernel
theorem d_Bc_takeProposalIfDue_25 : decode m_Bc_takeProposalIfDue.2.1 25 = .ok (.getfield 22, 3) := by decide +kernel
theorem d_Bc_takeProposalIfDue_28 : decode m_Bc_takeProposalIfDue.2.1 28 = .ok (.getfield 105, 3) := by decide +kernel
theorem d_Bc_takeProposalIfDue_31 : decode m_Bc_takeProposalIfDue.2.1 31 = .ok (.iload_n 1, 1) := by decide +kernel
theorem d_Bc_takeProposalIfDue_32 : decode m_Bc_takeProposalIfDue.2.1 32 = .ok (.iaload, 1) := by decide +kernel
theorem d_Bc_takeProposalIfDue_33 : decode m_Bc_takeProposalIfDue.2.1 33 = .ok (.istore_n 2, 1) := by decide +kernel
theorem d_Bc_takeProposalIfDue_34 : decode m_Bc_takeProposalIfDue.2.1 34 = .ok (.aload_n 0, 1) := by decide +kernel
theorem d_Bc_takeProposalIfDue_35 : decode m_Bc_takeProposalIfDue.2.1 35 = .ok (.getfield 12, 3) := by decide +kernel
theorem d_Bc_takeProposalIfDue_38 : decode m_Bc_takeProposalIfDue.2.1 38 = .ok (.iload_n 2, 1) := by decide +kernel
theorem d_Bc_takeProposalIfDue_39 : decode m_Bc_takeProposalIfDue.2.1 39 = .ok (.invokevirtual 108, 3) := by decide +kernel
theorem d_Bc_takeProposalIfDue_42 : decode m_Bc_takeProposalIfDue.2.1 42 = .ok (.istore_n 3, 1) := by decide +kernel
theorem d_Bc_takeProposalIfDue_43 : decode m_Bc_takeProposalIfDue.2.1 43 = .ok (.iload_n 3, 1) := by decide +kernel
theorem d_Bc_takeProposalIfDue_44 : decode m_Bc_takeProposalIfDue.2.1 44 = .ok (.invokestatic 121, 3) := by decide +kernel
theorem d_Bc_takeProposalIfDue_47 : decode m_Bc_takeProposalIfDue.2.1 47 = .ok (.iconst 2, 1) := by decide +kernel
theorem d_Bc_takeProposalIfDue_48 : decode m_Bc_takeProposalIfDue.2.1 48 = .ok (.if_icmp .lt 29, 3) := by decide +kernel
theorem d_Bc_takeProposalIfDue_51 : decode m_Bc_takeProposalIfDue.2.1 51 = .ok (.aload_n 0, 1) := by decide +kernel
theorem d_Bc_takeProposalIfDue_52 : decode m_Bc_takeProposalIfDue.2.1 52 = .ok (.iload_n 3, 1) := by decide +kernel
theorem d_Bc_takeProposalIfDue_53 : decode m_Bc_takeProposalIfDue.2.1 53 = .ok (.invokevirtual 111, 3) := by decide +kernel
theorem d_Bc_takeProposalIfDue_56 : decode m_Bc_takeProposalIfDue.2.1 56 = .ok (.istore 4, 2) := by decide +kernel
theorem d_Bc_takeProposalIfDue_58 : decode m_Bc_takeProposalIfDue.2.1 58 = .ok (.aload_n 0, 1) := by decide +kernel
theorem d_Bc_takeProposalIfDue_59 : decode m_Bc_takeProposalIfDue.2.1 59 = .ok (.iload 4, 2) := by decide +kernel
theorem d_Bc_takeProposalIfDue_61 : decode m_Bc_takeProposalIfDue.2.1 61 = .ok (.invokestatic 114, 3) := by decide +kernel
theorem d_Bc_takeProposalIfDue_64 : decode m_Bc_takeProposalIfDue.2.1 64 = .ok (.iload_n 2, 1) := by decide +kernel
theorem d_Bc_takeProposalIfDue_65 : decode m_Bc_takeProposalIfDue.2.1 65 = .ok (.if_icmp .ne 8, 3) := by decide +kernel
theorem d_Bc_takeProposalIfDue_68 : decode m_Bc_takeProposalIfDue.2.1 68 = .ok (.iload 4, 2) := by decide +kernel
theorem d_Bc_takeProposalIfDue_70 : decode m_Bc_takeProposalIfDue.2.1 70 = .ok (.goto 4, 3) := by decide +kernel
theorem d_Bc_takeProposalIfDue_73 : decode m_Bc_takeProposalIfDue.2.1 73 = .ok (.iconst 0, 1) := by decide +kernel
theorem d_Bc_takeProposalIfDue_74 : decode m_Bc_takeProposalIfDue.2.1 74 = .ok (.putfield 25, 3) := by decide +kernel
theorem d_Bc_takeProposalIfDue_77 : decode m_Bc_takeProposalIfDue.2.1 77 = .ok (.return_, 1) := by decide +kernel
theorem d_Ag_giveInput_0 : decode m_Ag_giveInput.2.1 0 = .ok (.aload_n 0, 1) := by decide +kernel
theorem d_Ag_giveInput_1 : decode m_Ag_giveInput.2.1 1 = .ok (.invokevirtual 58, 3) := by decide +kernel
theorem d_Ag_giveInput_4 : decode m_Ag_giveInput.2.1 4 = .ok (.ifCond .ne 13, 3) := by decide +kernel
theorem d_Ag_giveInput_7 : decode m_Ag_giveInput.2.1 7 = .ok (.aload_n 0, 1) := by decide +kernel
theorem d_Ag_giveInput_8 : decode m_Ag_giveInput.2.1 8 = .ok (.iconst 0, 1) := by decide +kernel
theorem d_Ag_giveInput_9 : decode m_Ag_giveInput.2.1 9 = .ok (.putfield 18, 3) := by decide +kernel
theorem d_Ag_giveInput_12 : decode m_Ag_giveInput.2.1 12 = .ok (.aload_n 0, 1) := by decide +kernel
theorem d_Ag_giveInput_13 : decode m_Ag_giveInput.2.1 13 = .ok (.iload_n 1, 1) := by decide +kernel
theorem d_Ag_giveInput_14 : decode m_Ag_giveInput.2.1 14 = .ok (.putfield 22, 3) := by decide +kernel
theorem d_Ag_giveInput_17 : decode m_Ag_giveInput.2.1 17 = .ok (.return_, 1) := by decide +kernel
theorem d_Ag_hasInput_0 : decode m_Ag_hasInput.2.1 0 = .ok (.aload_n 0, 1) := by decide +kernel
theorem d_Ag_hasInput_1 : decode m_Ag_hasInput.2.1 1 = .ok (.getfield 18, 3) := by decide +kernel
theorem d_Ag_hasInput_4 : decode m_Ag_hasInput.2.1 4 = .ok (.iconst (-1), 1) := by decide +kernel
theorem d_Ag_hasInput_5 : decode m_Ag_hasInput.2.1 5 = .ok (.if_icmp .eq 7, 3) := by decide +kernel
theorem d_Ag_hasInput_8 : decode m_Ag_hasInput.2.1 8 = .ok (.iconst 1, 1) := by decide +kernel
theorem d_Ag_hasInput_9 : decode m_Ag_hasInput.2.1 9 = .ok (.goto 4, 3) := by decide +kernel
theorem d_Ag_hasInput_12 : decode m_Ag_hasInput.2.1 12 = .ok (.iconst 0, 1) := by decide +kernel
theorem d_Ag_hasInput_13 : decode m_Ag_hasInput.2.1 13 = .ok (.ireturn, 1) := by decide +kernel
theorem d_Ag_goOn_0 : decode m_Ag_goOn.2.1 0 = .ok (.iconst 0, 1) := by decide +kernel
theorem d_Ag_goOn_1 : decode m_Ag_goOn.2.1 1 = .ok (.istore_n 1, 1) := by decide +kernel
theorem d_Ag_goOn_2 : decode m_Ag_goOn.2.1 2 = .ok (.iload_n 1, 1) := by decide +kernel
theorem d_Ag_goOn_3 : decode m_Ag_goOn.2.1 3 = .ok (.bipush 6, 2) := by decide +kernel
theorem d_Ag_goOn_5 : decode m_Ag_goOn.2.1 5 = .ok (.if_icmp .ge 105, 3) := by decide +kernel
theorem d_Ag_goOn_8 : decode m_Ag_goOn.2.1 8 = .ok (.aload_n 0, 1) := by decide +kernel
theorem d_Ag_goOn_9 : decode m_Ag_goOn.2.1 9 = .ok (.invokevirtual 58, 3) := by decide +kernel
theorem d_Ag_goOn_12 : decode m_Ag_goOn.2.1 12 = .ok (.ifCond .eq 98, 3) := by decide +kernel
theorem d_Ag_goOn_15 : decode m_Ag_goOn.2.1 15 = .ok (.aload_n 0, 1) := by decide +kernel
theorem d_Ag_goOn_16 : decode m_Ag_goOn.2.1 16 = .ok (.getfield 62, 3) := by decide +kernel
theorem d_Ag_goOn_19 : decode m_Ag_goOn.2.1 19 = .ok (.ifCond .ne 91, 3) := by decide +kernel
theorem d_Ag_goOn_22 : decode m_Ag_goOn.2.1 22 = .ok (.aload_n 0, 1) := by decide +kernel
theorem d_Ag_goOn_23 : decode m_Ag_goOn.2.1 23 = .ok (.aload_n 0, 1) := by decide +kernel
theorem d_Ag_goOn_24 : decode m_Ag_goOn.2.1 24 = .ok (.getfield 22, 3) := by decide +kernel
theorem d_Ag_goOn_27 : decode m_Ag_goOn.2.1 27 = .ok (.invokevirtual 66, 3) := by decide +kernel
theorem d_Ag_goOn_30 : decode m_Ag_goOn.2.1 30 = .ok (.iconst 0, 1) := by decide +kernel
theorem d_Ag_goOn_31 : decode m_Ag_goOn.2.1 31 = .ok (.istore_n 2, 1) := by decide +kernel
theorem d_Ag_goOn_32 : decode m_Ag_goOn.2.1 32 = .ok (.iload_n 2, 1) := by decide +kernel
theorem d_Ag_goOn_33 : decode m_Ag_goOn.2.1 33 = .ok (.iconst 2, 1) := by decide +kernel
theorem d_Ag_goOn_34 : decode m_Ag_goOn.2.1 34 = .ok (.if_icmp .ge 23, 3) := by decide +kernel
theorem d_Ag_goOn_37 : decode m_Ag_goOn.2.1 37 = .ok (.aload_n 0, 1) := by decide +kernel
theorem d_Ag_goOn_38 : decode m_Ag_goOn.2.1 38 = .ok (.iload_n 2, 1) := by decide +kernel
theorem d_Ag_goOn_39 : decode m_Ag_goOn.2.1 39 = .ok (.invokevirtual 70, 3) := by decide +kernel
theorem d_Ag_goOn_42 : decode m_Ag_goOn.2.1 42 = .ok (.iconst 2, 1) := by decide +kernel
theorem d_Ag_goOn_43 : decode m_Ag_goOn.2.1 43 = .ok (.if_icmp .lt 8, 3) := by decide +kernel
theorem d_Ag_goOn_46 : decode m_Ag_goOn.2.1 46 = .ok (.aload_n 0, 1) := by decide +kernel
theorem d_Ag_goOn_47 : decode m_Ag_goOn.2.1 47 = .ok (.iload_n 2, 1) := by decide +kernel
theorem d_Ag_goOn_48 : decode m_Ag_goOn.2.1 48 = .ok (.invokevirtual 66, 3) := by decide +kernel
theorem d_Ag_goOn_51 : decode m_Ag_goOn.2.1 51 = .ok (.iinc 2 1, 3) := by decide +kernel
theorem d_Ag_goOn_54 : decode m_Ag_goOn.2.1 54 = .ok (.goto (-22), 3) := by decide +kernel
theorem d_Ag_goOn_57 : decode m_Ag_goOn.2.1 57 = .ok (.iconst 0, 1) := by decide +kernel
theorem d_Ag_goOn_58 : decode m_Ag_goOn.2.1 58 = .ok (.istore_n 2, 1) := by decide +kernel
theorem d_Ag_goOn_59 : decode m_Ag_goOn.2.1 59 = .ok (.iload_n 2, 1) := by decide +kernel
theorem d_Ag_goOn_60 : decode m_Ag_goOn.2.1 60 = .ok (.iconst 2, 1) := by decide +kernel
theorem d_Ag_goOn_61 : decode m_Ag_goOn.2.1 61 = .ok (.if_icmp .ge 23, 3) := by decide +kernel
theorem d_Ag_goOn_64 : decode m_Ag_goOn.2.1 64 = .ok (.aload_n 0, 1) := by decide +kernel
theorem d_Ag_goOn_65 : decode m_Ag_goOn.2.1 65 = .ok (.iload_n 2, 1) := by decide +kernel
theorem d_Ag_goOn_66 : decode m_Ag_goOn.2.1 66 = .ok (.invokevirtual 70, 3) := by decide +kernel
theorem d_Ag_goOn_69 : decode m_Ag_goOn.2.1 69 = .ok (.iconst 3, 1) := by decide +kernel
theorem d_Ag_goOn_70 : decode m_Ag_goOn.2.1 70 = .ok (.if_icmp .lt 8, 3) := by decide +kernel
theorem d_Ag_goOn_73 : decode m_Ag_goOn.2.1 73 = .ok (.aload_n 0, 1) := by decide +kernel
theorem d_Ag_goOn_74 : decode m_Ag_goOn.2.1 74 = .ok (.iload_n 2, 1) := by decide +kernel
theorem d_Ag_goOn_75 : decode m_Ag_goOn.2.1 75 = .ok (.invokevirtual 74, 3) := by decide +kernel
theorem d_Ag_goOn_78 : decode m_Ag_goOn.2.1 78 = .ok (.iinc 2 1, 3) := by decide +kernel
theorem d_Ag_goOn_81 : decode m_Ag_goOn.2.1 81 = .ok (.goto (-22), 3) := by decide +kernel
theorem d_Ag_goOn_84 : decode m_Ag_goOn.2.1 84 = .ok (.aload_n 0, 1) := by decide +kernel
theorem d_Ag_goOn_85 : decode m_Ag_goOn.2.1 85 = .ok (.iconst 0, 1) := by decide +kernel
theorem d_Ag_goOn_86 : decode m_Ag_goOn.2.1 86 = .ok (.invokevirtual 77, 3) := by decide +kernel
theorem d_Ag_goOn_89 : decode m_Ag_goOn.2.1 89 = .ok (.aload_n 0, 1) := by decide +kernel
theorem d_Ag_goOn_90 : decode m_Ag_goOn.2.1 90 = .ok (.iconst 1, 1) := by decide +kernel
theorem d_Ag_goOn_91 : decode m_Ag_goOn.2.1 91 = .ok (.invokevirtual 77, 3) := by decide +kernel
theorem d_Ag_goOn_94 : decode m_Ag_goOn.2.1 94 = .ok (.iadd, 1) := by decide +kernel
theorem d_Ag_goOn_95 : decode m_Ag_goOn.2.1 95 = .ok (.iconst 3, 1) := by decide +kernel
theorem d_Ag_goOn_96 : decode m_Ag_goOn.2.1 96 = .ok (.if_icmp .ge 4, 3) := by decide +kernel
theorem d_Ag_goOn_99 : decode m_Ag_goOn.2.1 99 = .ok (.return_, 1) := by decide +kernel
theorem d_Ag_goOn_100 : decode m_Ag_goOn.2.1 100 = .ok (.aload_n 0, 1) := by decide +kernel
theorem d_Ag_goOn_101 : decode m_Ag_goOn.2.1 101 = .ok (.invokevirtual 80, 3) := by decide +kernel
theorem d_Ag_goOn_104 : decode m_Ag_goOn.2.1 104 = .ok (.iinc 1 1, 3) := by decide +kernel
theorem d_Ag_goOn_107 : decode m_Ag_goOn.2.1 107 = .ok (.goto (-105), 3) := by decide +kernel
theorem d_Ag_goOn_110 : decode m_Ag_goOn.2.1 110 = .ok (.return_, 1) := by decide +kernel
theorem d_Ag_sendVote_0 : decode m_Ag_sendVote.2.1 0 = .ok (.aload_n 0, 1) := by decide +kernel
theorem d_Ag_sendVote_1 : decode m_Ag_sendVote.2.1 1 = .ok (.getfield 88, 3) := by decide +kernel
theorem d_Ag_sendVote_4 : decode m_Ag_sendVote.2.1 4 = .ok (.iload_n 1, 1) := by decide +kernel
theorem d_Ag_sendVote_5 : decode m_Ag_sendVote.2.1 5 = .ok (.ishr, 1) := by decide +kernel
theorem d_Ag_sendVote_6 : decode m_Ag_sendVote.2.1 6 = .ok (.iconst 1, 1) := by decide +kernel
theorem d_Ag_sendVote_7 : decode m_Ag_sendVote.2.1 7 = .ok (.iand, 1) := by decide +kernel
theorem d_Ag_sendVote_8 : decode m_Ag_sendVote.2.1 8 = .ok (.ifCond .ne 47, 3) := by decide +kernel
theorem d_Ag_sendVote_11 : decode m_Ag_sendVote.2.1 11 = .ok (.aload_n 0, 1) := by decide +kernel
theorem d_Ag_sendVote_12 : decode m_Ag_sendVote.2.1 12 = .ok (.dup, 1) := by decide +kernel
theorem d_Ag_sendVote_13 : decode m_Ag_sendVote.2.1 13 = .ok (.getfield 88, 3) := by decide +kernel
theorem d_Ag_sendVote_16 : decode m_Ag_sendVote.2.1 16 = .ok (.iconst 1, 1) := by decide +kernel
theorem d_Ag_sendVote_17 : decode m_Ag_sendVote.2.1 17 = .ok (.iload_n 1, 1) := by decide +kernel
theorem d_Ag_sendVote_18 : decode m_Ag_sendVote.2.1 18 = .ok (.ishl, 1) := by decide +kernel
theorem d_Ag_sendVote_19 : decode m_Ag_sendVote.2.1 19 = .ok (.ior, 1) := by decide +kernel
theorem d_Ag_sendVote_20 : decode m_Ag_sendVote.2.1 20 = .ok (.putfield 88, 3) := by decide +kernel
theorem d_Ag_sendVote_23 : decode m_Ag_sendVote.2.1 23 = .ok (.aload_n 0, 1) := by decide +kernel
theorem d_Ag_sendVote_24 : decode m_Ag_sendVote.2.1 24 = .ok (.getfield 28, 3) := by decide +kernel
theorem d_Ag_sendVote_27 : decode m_Ag_sendVote.2.1 27 = .ok (.new 45, 3) := by decide +kernel
theorem d_Ag_sendVote_30 : decode m_Ag_sendVote.2.1 30 = .ok (.dup, 1) := by decide +kernel
theorem d_Ag_sendVote_31 : decode m_Ag_sendVote.2.1 31 = .ok (.aload_n 0, 1) := by decide +kernel
theorem d_Ag_sendVote_32 : decode m_Ag_sendVote.2.1 32 = .ok (.getfield 32, 3) := by decide +kernel
theorem d_Ag_sendVote_35 : decode m_Ag_sendVote.2.1 35 = .ok (.aload_n 0, 1) := by decide +kernel
theorem d_Ag_sendVote_36 : decode m_Ag_sendVote.2.1 36 = .ok (.getfield 35, 3) := by decide +kernel
theorem d_Ag_sendVote_39 : decode m_Ag_sendVote.2.1 39 = .ok (.aload_n 0, 1) := by decide +kernel
theorem d_Ag_sendVote_40 : decode m_Ag_sendVote.2.1 40 = .ok (.getfield 38, 3) := by decide +kernel
theorem d_Ag_sendVote_43 : decode m_Ag_sendVote.2.1 43 = .ok (.iconst 3, 1) := by decide +kernel
theorem d_Ag_sendVote_44 : decode m_Ag_sendVote.2.1 44 = .ok (.aload_n 0, 1) := by decide +kernel
theorem d_Ag_sendVote_45 : decode m_Ag_sendVote.2.1 45 = .ok (.getfield 18, 3) := by decide +kernel
theorem d_Ag_sendVote_48 : decode m_Ag_sendVote.2.1 48 = .ok (.iload_n 1, 1) := by decide +kernel
theorem d_Ag_sendVote_49 : decode m_Ag_sendVote.2.1 49 = .ok (.invokespecial 91, 3) := by decide +kernel
theorem d_Ag_sendVote_52 : decode m_Ag_sendVote.2.1 52 = .ok (.invokevirtual 94, 3) := by decide +kernel
theorem d_Ag_sendVote_55 : decode m_Ag_sendVote.2.1 55 = .ok (.return_, 1) := by decide +kernel
theorem d_Ag_voters_0 : decode m_Ag_voters.2.1 0 = .ok (.aload_n 0, 1) := by decide +kernel
theorem d_Ag_voters_1 : decode m_Ag_voters.2.1 1 = .ok (.getfield 9, 3) := by decide +kernel
theorem d_Ag_voters_4 : decode m_Ag_voters.2.1 4 = .ok (.iconst 2, 1) := by decide +kernel
theorem d_Ag_voters_5 : decode m_Ag_voters.2.1 5 = .ok (.aload_n 0, 1) := by decide +kernel
theorem d_Ag_voters_6 : decode m_Ag_voters.2.1 6 = .ok (.getfield 18, 3) := by decide +kernel
theorem d_Ag_voters_9 : decode m_Ag_voters.2.1 9 = .ok (.imul, 1) := by decide +kernel
theorem d_Ag_voters_10 : decode m_Ag_voters.2.1 10 = .ok (.iload_n 1, 1) := by decide +kernel
theorem d_Ag_voters_11 : decode m_Ag_voters.2.1 11 = .ok (.iadd, 1) := by decide +kernel
theorem d_Ag_voters_12 : decode m_Ag_voters.2.1 12 = .ok (.iaload, 1) := by decide +kernel
theorem d_Ag_voters_13 : decode m_Ag_voters.2.1 13 = .ok (.invokestatic 83, 3) := by decide +kernel
theorem d_Ag_voters_16 : decode m_Ag_voters.2.1 16 = .ok (.ireturn, 1) := by decide +kernel
theorem d_Ag_makeGood_0 : decode m_Ag_makeGood.2.1 0 = .ok (.aload_n 0, 1) := by decide +kernel
theorem d_Ag_makeGood_1 : decode m_Ag_makeGood.2.1 1 = .ok (.dup, 1) := by decide +kernel
theorem d_Ag_makeGood_2 : decode m_Ag_makeGood.2.1 2 = .ok (.getfield 100, 3) := by decide +kernel
theorem d_Ag_makeGood_5 : decode m_Ag_makeGood.2.1 5 = .ok (.iconst 1, 1) := by decide +kernel
theorem d_Ag_makeGood_6 : decode m_Ag_makeGood.2.1 6 = .ok (.iload_n 1, 1) := by decide +kernel
theorem d_Ag_makeGood_7 : decode m_Ag_makeGood.2.1 7 = .ok (.ishl, 1) := by decide +kernel
theorem d_Ag_makeGood_8 : decode m_Ag_makeGood.2.1 8 = .ok (.ior, 1) := by decide +kernel
theorem d_Ag_makeGood_9 : decode m_Ag_makeGood.2.1 9 = .ok (.putfield 100, 3) := by decide +kernel
theorem d_Ag_makeGood_12 : decode m_Ag_makeGood.2.1 12 = .ok (.aload_n 0, 1) := by decide +kernel
theorem d_Ag_makeGood_13 : decode m_Ag_makeGood.2.1 13 = .ok (.getfield 103, 3) := by decide +kernel
theorem d_Ag_makeGood_16 : decode m_Ag_makeGood.2.1 16 = .ok (.ifCond .ne 40, 3) := by decide +kernel
theorem d_Ag_makeGood_19 : decode m_Ag_makeGood.2.1 19 = .ok (.aload_n 0, 1) := by decide +kernel
theorem d_Ag_makeGood_20 : decode m_Ag_makeGood.2.1 20 = .ok (.iconst 1, 1) := by decide +kernel
theorem d_Ag_makeGood_21 : decode m_Ag_makeGood.2.1 21 = .ok (.putfield 103, 3) := by decide +kernel
theorem d_Ag_makeGood_24 : decode m_Ag_makeGood.2.1 24 = .ok (.aload_n 0, 1) := by decide +kernel
theorem d_Ag_makeGood_25 : decode m_Ag_makeGood.2.1 25 = .ok (.getfield 28, 3) := by decide +kernel
theorem d_Ag_makeGood_28 : decode m_Ag_makeGood.2.1 28 = .ok (.new 45, 3) := by decide +kernel
theorem d_Ag_makeGood_31 : decode m_Ag_makeGood.2.1 31 = .ok (.dup, 1) := by decide +kernel
theorem d_Ag_makeGood_32 : decode m_Ag_makeGood.2.1 32 = .ok (.aload_n 0, 1) := by decide +kernel
theorem d_Ag_makeGood_33 : decode m_Ag_makeGood.2.1 33 = .ok (.getfield 32, 3) := by decide +kernel
theorem d_Ag_makeGood_36 : decode m_Ag_makeGood.2.1 36 = .ok (.aload_n 0, 1) := by decide +kernel
theorem d_Ag_makeGood_37 : decode m_Ag_makeGood.2.1 37 = .ok (.getfield 35, 3) := by decide +kernel
theorem d_Ag_makeGood_40 : decode m_Ag_makeGood.2.1 40 = .ok (.aload_n 0, 1) := by decide +kernel
theorem d_Ag_makeGood_41 : decode m_Ag_makeGood.2.1 41 = .ok (.getfield 38, 3) := by decide +kernel
theorem d_Ag_makeGood_44 : decode m_Ag_makeGood.2.1 44 = .ok (.iconst 4, 1) := by decide +kernel
theorem d_Ag_makeGood_45 : decode m_Ag_makeGood.2.1 45 = .ok (.aload_n 0, 1) := by decide +kernel
theorem d_Ag_makeGood_46 : decode m_Ag_makeGood.2.1 46 = .ok (.getfield 18, 3) := by decide +kernel
theorem d_Ag_makeGood_49 : decode m_Ag_makeGood.2.1 49 = .ok (.iload_n 1, 1) := by decide +kernel
theorem d_Ag_makeGood_50 : decode m_Ag_makeGood.2.1 50 = .ok (.invokespecial 91, 3) := by decide +kernel
theorem d_Ag_makeGood_53 : decode m_Ag_makeGood.2.1 53 = .ok (.invokevirtual 94, 3) := by decide +kernel
theorem d_Ag_makeGood_56 : decode m_Ag_makeGood.2.1 56 = .ok (.return_, 1) := by decide +kernel
theorem d_Ag_goodSures_0 : decode m_Ag_goodSures.2.1 0 = .ok (.aload_n 0, 1) := by decide +kernel
theorem d_Ag_goodSures_1 : decode m_Ag_goodSures.2.1 1 = .ok (.getfield 100, 3) := by decide +kernel
theorem d_Ag_goodSures_4 : decode m_Ag_goodSures.2.1 4 = .ok (.iload_n 1, 1) := by decide +kernel
theorem d_Ag_goodSures_5 : decode m_Ag_goodSures.2.1 5 = .ok (.ishr, 1) := by decide +kernel
theorem d_Ag_goodSures_6 : decode m_Ag_goodSures.2.1 6 = .ok (.iconst 1, 1) := by decide +kernel
theorem d_Ag_goodSures_7 : decode m_Ag_goodSures.2.1 7 = .ok (.iand, 1) := by decide +kernel
theorem d_Ag_goodSures_8 : decode m_Ag_goodSures.2.1 8 = .ok (.ifCond .ne 7, 3) := by decide +kernel
theorem d_Ag_goodSures_11 : decode m_Ag_goodSures.2.1 11 = .ok (.iconst 0, 1) := by decide +kernel
theorem d_Ag_goodSures_12 : decode m_Ag_goodSures.2.1 12 = .ok (.goto 19, 3) := by decide +kernel
theorem d_Ag_goodSures_15 : decode m_Ag_goodSures.2.1 15 = .ok (.aload_n 0, 1) := by decide +kernel
theorem d_Ag_goodSures_16 : decode m_Ag_goodSures.2.1 16 = .ok (.getfield 15, 3) := by decide +kernel
theorem d_Ag_goodSures_19 : decode m_Ag_goodSures.2.1 19 = .ok (.iconst 2, 1) := by decide +kernel
theorem d_Ag_goodSures_20 : decode m_Ag_goodSures.2.1 20 = .ok (.aload_n 0, 1) := by decide +kernel
theorem d_Ag_goodSures_21 : decode m_Ag_goodSures.2.1 21 = .ok (.getfield 18, 3) := by decide +kernel
theorem d_Ag_goodSures_24 : decode m_Ag_goodSures.2.1 24 = .ok (.imul, 1) := by decide +kernel
theorem d_Ag_goodSures_25 : decode m_Ag_goodSures.2.1 25 = .ok (.iload_n 1, 1) := by decide +kernel
theorem d_Ag_goodSures_26 : decode m_Ag_goodSures.2.1 26 = .ok (.iadd, 1) := by decide +kernel
theorem d_Ag_goodSures_27 : decode m_Ag_goodSures.2.1 27 = .ok (.iaload, 1) := by decide +kernel
theorem d_Ag_goodSures_28 : decode m_Ag_goodSures.2.1 28 = .ok (.invokestatic 83, 3) := by decide +kernel
theorem d_Ag_goodSures_31 : decode m_Ag_goodSures.2.1 31 = .ok (.ireturn, 1) := by decide +kernel
theorem d_Ag_finishRound_0 : decode m_Ag_finishRound.2.1 0 = .ok (.aload_n 0, 1) := by decide +kernel
theorem d_Ag_finishRound_1 : decode m_Ag_finishRound.2.1 1 = .ok (.getfield 41, 3) := by decide +kernel
theorem d_Ag_finishRound_4 : decode m_Ag_finishRound.2.1 4 = .ok (.aload_n 0, 1) := by decide +kernel
theorem d_Ag_finishRound_5 : decode m_Ag_finishRound.2.1 5 = .ok (.getfield 35, 3) := by decide +kernel
theorem d_Ag_finishRound_8 : decode m_Ag_finishRound.2.1 8 = .ok (.aload_n 0, 1) := by decide +kernel
theorem d_Ag_finishRound_9 : decode m_Ag_finishRound.2.1 9 = .ok (.getfield 38, 3) := by decide +kernel
theorem d_Ag_finishRound_12 : decode m_Ag_finishRound.2.1 12 = .ok (.aload_n 0, 1) := by decide +kernel
theorem d_Ag_finishRound_13 : decode m_Ag_finishRound.2.1 13 = .ok (.getfield 18, 3) := by decide +kernel
theorem d_Ag_finishRound_16 : decode m_Ag_finishRound.2.1 16 = .ok (.invokestatic 106, 3) := by decide +kernel
theorem d_Ag_finishRound_19 : decode m_Ag_finishRound.2.1 19 = .ok (.istore_n 1, 1) := by decide +kernel
theorem d_Ag_finishRound_20 : decode m_Ag_finishRound.2.1 20 = .ok (.aload_n 0, 1) := by decide +kernel
theorem d_Ag_finishRound_21 : decode m_Ag_finishRound.2.1 21 = .ok (.getfield 25, 3) := by decide +kernel
theorem d_Ag_finishRound_24 : decode m_Ag_finishRound.2.1 24 = .ok (.iload_n 1, 1) := by decide +kernel
theorem d_Ag_finishRound_25 : decode m_Ag_finishRound.2.1 25 = .ok (.if_icmp .ne 7, 3) := by decide +kernel
theorem d_Ag_finishRound_28 : decode m_Ag_finishRound.2.1 28 = .ok (.iconst 1, 1) := by decide +kernel
theorem d_Ag_finishRound_29 : decode m_Ag_finishRound.2.1 29 = .ok (.goto 4, 3) := by decide +kernel
theorem d_Ag_finishRound_32 : decode m_Ag_finishRound.2.1 32 = .ok (.iconst 0, 1) := by decide +kernel
theorem d_Ag_finishRound_33 : decode m_Ag_finishRound.2.1 33 = .ok (.istore_n 2, 1) := by decide +kernel
theorem d_Ag_finishRound_34 : decode m_Ag_finishRound.2.1 34 = .ok (.aload_n 0, 1) := by decide +kernel
theorem d_Ag_finishRound_35 : decode m_Ag_finishRound.2.1 35 = .ok (.iconst 0, 1) := by decide +kernel
theorem d_Ag_finishRound_36 : decode m_Ag_finishRound.2.1 36 = .ok (.invokevirtual 77, 3) := by decide +kernel
theorem d_Ag_finishRound_39 : decode m_Ag_finishRound.2.1 39 = .ok (.ifCond .le 19, 3) := by decide +kernel
theorem d_Ag_finishRound_42 : decode m_Ag_finishRound.2.1 42 = .ok (.aload_n 0, 1) := by decide +kernel
theorem d_Ag_finishRound_43 : decode m_Ag_finishRound.2.1 43 = .ok (.iconst 1, 1) := by decide +kernel
theorem d_Ag_finishRound_44 : decode m_Ag_finishRound.2.1 44 = .ok (.invokevirtual 77, 3) := by decide +kernel
theorem d_Ag_finishRound_47 : decode m_Ag_finishRound.2.1 47 = .ok (.ifCond .le 11, 3) := by decide +kernel
theorem d_Ag_finishRound_50 : decode m_Ag_finishRound.2.1 50 = .ok (.aload_n 0, 1) := by decide +kernel
theorem d_Ag_finishRound_51 : decode m_Ag_finishRound.2.1 51 = .ok (.iload_n 1, 1) := by decide +kernel
theorem d_Ag_finishRound_52 : decode m_Ag_finishRound.2.1 52 = .ok (.putfield 22, 3) := by decide +kernel
theorem d_Ag_finishRound_55 : decode m_Ag_finishRound.2.1 55 = .ok (.goto 41, 3) := by decide +kernel
theorem d_Ag_finishRound_58 : decode m_Ag_finishRound.2.1 58 = .ok (.aload_n 0, 1) := by decide +kernel
theorem d_Ag_finishRound_59 : decode m_Ag_finishRound.2.1 59 = .ok (.aload_n 0, 1) := by decide +kernel
theorem d_Ag_finishRound_60 : decode m_Ag_finishRound.2.1 60 = .ok (.iconst 1, 1) := by decide +kernel
theorem d_Ag_finishRound_61 : decode m_Ag_finishRound.2.1 61 = .ok (.invokevirtual 77, 3) := by decide +kernel
theorem d_Ag_finishRound_64 : decode m_Ag_finishRound.2.1 64 = .ok (.ifCond .le 7, 3) := by decide +kernel
theorem d_Ag_finishRound_67 : decode m_Ag_finishRound.2.1 67 = .ok (.iconst 1, 1) := by decide +kernel
theorem d_Ag_finishRound_68 : decode m_Ag_finishRound.2.1 68 = .ok (.goto 4, 3) := by decide +kernel
theorem d_Ag_finishRound_71 : decode m_Ag_finishRound.2.1 71 = .ok (.iconst 0, 1) := by decide +kernel
theorem d_Ag_finishRound_72 : decode m_Ag_finishRound.2.1 72 = .ok (.putfield 22, 3) := by decide +kernel
theorem d_Ag_finishRound_75 : decode m_Ag_finishRound.2.1 75 = .ok (.aload_n 0, 1) := by decide +kernel
theorem d_Ag_finishRound_76 : decode m_Ag_finishRound.2.1 76 = .ok (.getfield 22, 3) := by decide +kernel
theorem d_Ag_finishRound_79 : decode m_Ag_finishRound.2.1 79 = .ok (.iload_n 1, 1) := by decide +kernel
theorem d_Ag_finishRound_80 : decode m_Ag_finishRound.2.1 80 = .ok (.if_icmp .ne 16, 3) := by decide +kernel
theorem d_Ag_finishRound_83 : decode m_Ag_finishRound.2.1 83 = .ok (.aload_n 0, 1) := by decide +kernel
theorem d_Ag_finishRound_84 : decode m_Ag_finishRound.2.1 84 = .ok (.getfield 25, 3) := by decide +kernel
theorem d_Ag_finishRound_87 : decode m_Ag_finishRound.2.1 87 = .ok (.iconst (-1), 1) := by decide +kernel
theorem d_Ag_finishRound_88 : decode m_Ag_finishRound.2.1 88 = .ok (.if_icmp .ne 8, 3) := by decide +kernel
theorem d_Ag_finishRound_91 : decode m_Ag_finishRound.2.1 91 = .ok (.aload_n 0, 1) := by decide +kernel
theorem d_Ag_finishRound_92 : decode m_Ag_finishRound.2.1 92 = .ok (.iload_n 1, 1) := by decide +kernel
theorem d_Ag_finishRound_93 : decode m_Ag_finishRound.2.1 93 = .ok (.putfield 25, 3) := by decide +kernel
theorem d_Ag_finishRound_96 : decode m_Ag_finishRound.2.1 96 = .ok (.iload_n 2, 1) := by decide +kernel
theorem d_Ag_finishRound_97 : decode m_Ag_finishRound.2.1 97 = .ok (.ifCond .ne 11, 3) := by decide +kernel
theorem d_Ag_finishRound_100 : decode m_Ag_finishRound.2.1 100 = .ok (.aload_n 0, 1) := by decide +kernel
theorem d_Ag_finishRound_101 : decode m_Ag_finishRound.2.1 101 = .ok (.getfield 18, 3) := by decide +kernel
theorem d_Ag_finishRound_104 : decode m_Ag_finishRound.2.1 104 = .ok (.iconst 5, 1) := by decide +kernel
theorem d_Ag_finishRound_105 : decode m_Ag_finishRound.2.1 105 = .ok (.if_icmp .ne 11, 3) := by decide +kernel
theorem d_Ag_finishRound_108 : decode m_Ag_finishRound.2.1 108 = .ok (.aload_n 0, 1) := by decide +kernel
theorem d_Ag_finishRound_109 : decode m_Ag_finishRound.2.1 109 = .ok (.iconst 1, 1) := by decide +kernel
theorem d_Ag_finishRound_110 : decode m_Ag_finishRound.2.1 110 = .ok (.putfield 62, 3) := by decide +kernel
theorem d_Ag_finishRound_113 : decode m_Ag_finishRound.2.1 113 = .ok (.goto 7, 3) := by decide +kernel
theorem d_Ag_finishRound_116 : decode m_Ag_finishRound.2.1 116 = .ok (.aload_n 0, 1) := by decide +kernel
theorem d_Ag_finishRound_117 : decode m_Ag_finishRound.2.1 117 = .ok (.invokevirtual 110, 3) := by decide +kernel
theorem d_Ag_finishRound_120 : decode m_Ag_finishRound.2.1 120 = .ok (.return_, 1) := by decide +kernel
theorem d_El_tossOf_0 : decode m_El_tossOf.2.1 0 = .ok (.iload_n 0, 1) := by decide +kernel
theorem d_El_tossOf_1 : decode m_El_tossOf.2.1 1 = .ok (.iload_n 1, 1) := by decide +kernel
theorem d_El_tossOf_2 : decode m_El_tossOf.2.1 2 = .ok (.iconst 4, 1) := by decide +kernel
theorem d_El_tossOf_3 : decode m_El_tossOf.2.1 3 = .ok (.imul, 1) := by decide +kernel
theorem d_El_tossOf_4 : decode m_El_tossOf.2.1 4 = .ok (.bipush 6, 2) := by decide +kernel
theorem d_El_tossOf_6 : decode m_El_tossOf.2.1 6 = .ok (.imul, 1) := by decide +kernel
theorem d_El_tossOf_7 : decode m_El_tossOf.2.1 7 = .ok (.iload_n 2, 1) := by decide +kernel
theorem d_El_tossOf_8 : decode m_El_tossOf.2.1 8 = .ok (.bipush 6, 2) := by decide +kernel
theorem d_El_tossOf_10 : decode m_El_tossOf.2.1 10 = .ok (.imul, 1) := by decide +kernel
theorem d_El_tossOf_11 : decode m_El_tossOf.2.1 11 = .ok (.iadd, 1) := by decide +kernel
theorem d_El_tossOf_12 : decode m_El_tossOf.2.1 12 = .ok (.iload_n 3, 1) := by decide +kernel
theorem d_El_tossOf_13 : decode m_El_tossOf.2.1 13 = .ok (.iadd, 1) := by decide +kernel
theorem d_El_tossOf_14 : decode m_El_tossOf.2.1 14 = .ok (.bipush 31, 2) := by decide +kernel
theorem d_El_tossOf_16 : decode m_El_tossOf.2.1 16 = .ok (.irem, 1) := by decide +kernel
theorem d_El_tossOf_17 : decode m_El_tossOf.2.1 17 = .ok (.iushr, 1) := by decide +kernel
theorem d_El_tossOf_18 : decode m_El_tossOf.2.1 18 = .ok (.iconst 1, 1) := by decide +kernel
theorem d_El_tossOf_19 : decode m_El_tossOf.2.1 19 = .ok (.iand, 1) := by decide +kernel
theorem d_El_tossOf_20 : decode m_El_tossOf.2.1 20 = .ok (.ireturn, 1) := by decide +kernel
theorem d_Ag_enterNextRound_0 : decode m_Ag_enterNextRound.2.1 0 = .ok (.aload_n 0, 1) := by decide +kernel
theorem d_Ag_enterNextRound_1 : decode m_Ag_enterNextRound.2.1 1 = .ok (.dup, 1) := by decide +kernel
theorem d_Ag_enterNextRound_2 : decode m_Ag_enterNextRound.2.1 2 = .ok (.getfield 18, 3) := by decide +kernel
theorem d_Ag_enterNextRound_5 : decode m_Ag_enterNextRound.2.1 5 = .ok (.iconst 1, 1) := by decide +kernel
theorem d_Ag_enterNextRound_6 : decode m_Ag_enterNextRound.2.1 6 = .ok (.iadd, 1) := by decide +kernel
theorem d_Ag_enterNextRound_7 : decode m_Ag_enterNextRound.2.1 7 = .ok (.putfield 18, 3) := by decide +kernel
theorem d_Ag_enterNextRound_10 : decode m_Ag_enterNextRound.2.1 10 = .ok (.aload_n 0, 1) := by decide +kernel
theorem d_Ag_enterNextRound_11 : decode m_Ag_enterNextRound.2.1 11 = .ok (.iconst 0, 1) := by decide +kernel
theorem d_Ag_enterNextRound_12 : decode m_Ag_enterNextRound.2.1 12 = .ok (.putfield 100, 3) := by decide +kernel
theorem d_Ag_enterNextRound_15 : decode m_Ag_enterNextRound.2.1 15 = .ok (.aload_n 0, 1) := by decide +kernel
theorem d_Ag_enterNextRound_16 : decode m_Ag_enterNextRound.2.1 16 = .ok (.iconst 0, 1) := by decide +kernel
theorem d_Ag_enterNextRound_17 : decode m_Ag_enterNextRound.2.1 17 = .ok (.putfield 88, 3) := by decide +kernel
theorem d_Ag_enterNextRound_20 : decode m_Ag_enterNextRound.2.1 20 = .ok (.aload_n 0, 1) := by decide +kernel
theorem d_Ag_enterNextRound_21 : decode m_Ag_enterNextRound.2.1 21 = .ok (.iconst 0, 1) := by decide +kernel
theorem d_Ag_enterNextRound_22 : decode m_Ag_enterNextRound.2.1 22 = .ok (.putfield 103, 3) := by decide +kernel
theorem d_Ag_enterNextRound_25 : decode m_Ag_enterNextRound.2.1 25 = .ok (.return_, 1) := by decide +kernel
theorem d_Nd_instanceToRefuse_0 : decode m_Nd_instanceToRefuse.2.1 0 = .ok (.iconst 0, 1) := by decide +kernel
theorem d_Nd_instanceToRefuse_1 : decode m_Nd_instanceToRefuse.2.1 1 = .ok (.istore_n 1, 1) := by decide +kernel
theorem d_Nd_instanceToRefuse_2 : decode m_Nd_instanceToRefuse.2.1 2 = .ok (.iconst (-1), 1) := by decide +kernel
theorem d_Nd_instanceToRefuse_3 : decode m_Nd_instanceToRefuse.2.1 3 = .ok (.istore_n 2, 1) := by decide +kernel
theorem d_Nd_instanceToRefuse_4 : decode m_Nd_instanceToRefuse.2.1 4 = .ok (.iconst 3, 1) := by decide +kernel
theorem d_Nd_instanceToRefuse_5 : decode m_Nd_instanceToRefuse.2.1 5 = .ok (.istore_n 3, 1) := by decide +kernel
theorem d_Nd_instanceToRefuse_6 : decode m_Nd_instanceToRefuse.2.1 6 = .ok (.iload_n 3, 1) := by decide +kernel
theorem d_Nd_instanceToRefuse_7 : decode m_Nd_instanceToRefuse.2.1 7 = .ok (.ifCond .lt 38, 3) := by decide +kernel
theorem d_Nd_instanceToRefuse_10 : decode m_Nd_instanceToRefuse.2.1 10 = .ok (.aload_n 0, 1) := by decide +kernel
theorem d_Nd_instanceToRefuse_11 : decode m_Nd_instanceToRefuse.2.1 11 = .ok (.iload_n 3, 1) := by decide +kernel
theorem d_Nd_instanceToRefuse_12 : decode m_Nd_instanceToRefuse.2.1 12 = .ok (.invokevirtual 126, 3) := by decide +kernel
theorem d_Nd_instanceToRefuse_15 : decode m_Nd_instanceToRefuse.2.1 15 = .ok (.astore 4, 2) := by decide +kernel
theorem d_Nd_instanceToRefuse_17 : decode m_Nd_instanceToRefuse.2.1 17 = .ok (.aload 4, 2) := by decide +kernel
theorem d_Nd_instanceToRefuse_19 : decode m_Nd_instanceToRefuse.2.1 19 = .ok (.getfield 151, 3) := by decide +kernel
theorem d_Nd_instanceToRefuse_22 : decode m_Nd_instanceToRefuse.2.1 22 = .ok (.iconst 1, 1) := by decide +kernel
theorem d_Nd_instanceToRefuse_23 : decode m_Nd_instanceToRefuse.2.1 23 = .ok (.if_icmp .ne 6, 3) := by decide +kernel
theorem d_Nd_instanceToRefuse_26 : decode m_Nd_instanceToRefuse.2.1 26 = .ok (.iinc 1 1, 3) := by decide +kernel
theorem d_Nd_instanceToRefuse_29 : decode m_Nd_instanceToRefuse.2.1 29 = .ok (.aload 4, 2) := by decide +kernel
theorem d_Nd_instanceToRefuse_31 : decode m_Nd_instanceToRefuse.2.1 31 = .ok (.invokevirtual 154, 3) := by decide +kernel
theorem d_Nd_instanceToRefuse_34 : decode m_Nd_instanceToRefuse.2.1 34 = .ok (.ifCond .ne 5, 3) := by decide +kernel
theorem d_Nd_instanceToRefuse_37 : decode m_Nd_instanceToRefuse.2.1 37 = .ok (.iload_n 3, 1) := by decide +kernel
theorem d_Nd_instanceToRefuse_38 : decode m_Nd_instanceToRefuse.2.1 38 = .ok (.istore_n 2, 1) := by decide +kernel
theorem d_Nd_instanceToRefuse_39 : decode m_Nd_instanceToRefuse.2.1 39 = .ok (.iinc 3 (-1), 3) := by decide +kernel
theorem d_Nd_instanceToRefuse_42 : decode m_Nd_instanceToRefuse.2.1 42 = .ok (.goto (-36), 3) := by decide +kernel
theorem d_Nd_instanceToRefuse_45 : decode m_Nd_instanceToRefuse.2.1 45 = .ok (.iload_n 1, 1) := by decide +kernel
theorem d_Nd_instanceToRefuse_46 : decode m_Nd_instanceToRefuse.2.1 46 = .ok (.iconst 3, 1) := by decide +kernel
theorem d_Nd_instanceToRefuse_47 : decode m_Nd_instanceToRefuse.2.1 47 = .ok (.if_icmp .lt 7, 3) := by decide +kernel
theorem d_Nd_instanceToRefuse_50 : decode m_Nd_instanceToRefuse.2.1 50 = .ok (.iload_n 2, 1) := by decide +kernel
theorem d_Nd_instanceToRefuse_51 : decode m_Nd_instanceToRefuse.2.1 51 = .ok (.goto 4, 3) := by decide +kernel
theorem d_Nd_instanceToRefuse_54 : decode m_Nd_instanceToRefuse.2.1 54 = .ok (.iconst (-1), 1) := by decide +kernel
theorem d_Nd_instanceToRefuse_55 : decode m_Nd_instanceToRefuse.2.1 55 = .ok (.ireturn, 1) := by decide +kernel
theorem d_Nd_mayCommit_0 : decode m_Nd_mayCommit.2.1 0 = .ok (.iconst 0, 1) := by decide +kernel
theorem d_Nd_mayCommit_1 : decode m_Nd_mayCommit.2.1 1 = .ok (.istore_n 1, 1) := by decide +kernel
theorem d_Nd_mayCommit_2 : decode m_Nd_mayCommit.2.1 2 = .ok (.iload_n 1, 1) := by decide +kernel
theorem d_Nd_mayCommit_3 : decode m_Nd_mayCommit.2.1 3 = .ok (.iconst 4, 1) := by decide +kernel
theorem d_Nd_mayCommit_4 : decode m_Nd_mayCommit.2.1 4 = .ok (.if_icmp .ge 42, 3) := by decide +kernel
theorem d_Nd_mayCommit_7 : decode m_Nd_mayCommit.2.1 7 = .ok (.aload_n 0, 1) := by decide +kernel
theorem d_Nd_mayCommit_8 : decode m_Nd_mayCommit.2.1 8 = .ok (.iload_n 1, 1) := by decide +kernel
theorem d_Nd_mayCommit_9 : decode m_Nd_mayCommit.2.1 9 = .ok (.invokevirtual 126, 3) := by decide +kernel
theorem d_Nd_mayCommit_12 : decode m_Nd_mayCommit.2.1 12 = .ok (.getfield 151, 3) := by decide +kernel
theorem d_Nd_mayCommit_15 : decode m_Nd_mayCommit.2.1 15 = .ok (.istore_n 2, 1) := by decide +kernel
theorem d_Nd_mayCommit_16 : decode m_Nd_mayCommit.2.1 16 = .ok (.iload_n 2, 1) := by decide +kernel
theorem d_Nd_mayCommit_17 : decode m_Nd_mayCommit.2.1 17 = .ok (.iconst (-1), 1) := by decide +kernel
theorem d_Nd_mayCommit_18 : decode m_Nd_mayCommit.2.1 18 = .ok (.if_icmp .eq 20, 3) := by decide +kernel
theorem d_Nd_mayCommit_21 : decode m_Nd_mayCommit.2.1 21 = .ok (.iload_n 2, 1) := by decide +kernel
theorem d_Nd_mayCommit_22 : decode m_Nd_mayCommit.2.1 22 = .ok (.iconst 1, 1) := by decide +kernel
theorem d_Nd_mayCommit_23 : decode m_Nd_mayCommit.2.1 23 = .ok (.if_icmp .ne 17, 3) := by decide +kernel
theorem d_Nd_mayCommit_26 : decode m_Nd_mayCommit.2.1 26 = .ok (.aload_n 0, 1) := by decide +kernel
theorem d_Nd_mayCommit_27 : decode m_Nd_mayCommit.2.1 27 = .ok (.iload_n 1, 1) := by decide +kernel
theorem d_Nd_mayCommit_28 : decode m_Nd_mayCommit.2.1 28 = .ok (.invokevirtual 122, 3) := by decide +kernel
theorem d_Nd_mayCommit_31 : decode m_Nd_mayCommit.2.1 31 = .ok (.getfield 139, 3) := by decide +kernel
theorem d_Nd_mayCommit_34 : decode m_Nd_mayCommit.2.1 34 = .ok (.iconst (-1), 1) := by decide +kernel
theorem d_Nd_mayCommit_35 : decode m_Nd_mayCommit.2.1 35 = .ok (.if_icmp .ne 5, 3) := by decide +kernel
theorem d_Nd_mayCommit_38 : decode m_Nd_mayCommit.2.1 38 = .ok (.iconst 0, 1) := by decide +kernel
theorem d_Nd_mayCommit_39 : decode m_Nd_mayCommit.2.1 39 = .ok (.ireturn, 1) := by decide +kernel
theorem d_Nd_mayCommit_40 : decode m_Nd_mayCommit.2.1 40 = .ok (.iinc 1 1, 3) := by decide +kernel
theorem d_Nd_mayCommit_43 : decode m_Nd_mayCommit.2.1 43 = .ok (.goto (-41), 3) := by decide +kernel
theorem d_Nd_mayCommit_46 : decode m_Nd_mayCommit.2.1 46 = .ok (.iconst 1, 1) := by decide +kernel
theorem d_Nd_mayCommit_47 : decode m_Nd_mayCommit.2.1 47 = .ok (.ireturn, 1) := by decide +kernel
theorem d_Nd_commit_0 : decode m_Nd_commit.2.1 0 = .ok (.iconst 1, 1) := by decide +kernel
theorem d_Nd_commit_1 : decode m_Nd_commit.2.1 1 = .ok (.istore_n 1, 1) := by decide +kernel
theorem d_Nd_commit_2 : decode m_Nd_commit.2.1 2 = .ok (.iload_n 1, 1) := by decide +kernel
theorem d_Nd_commit_3 : decode m_Nd_commit.2.1 3 = .ok (.sipush 255, 3) := by decide +kernel
theorem d_Nd_commit_6 : decode m_Nd_commit.2.1 6 = .ok (.if_icmp .gt 44, 3) := by decide +kernel
theorem d_Nd_commit_9 : decode m_Nd_commit.2.1 9 = .ok (.aload_n 0, 1) := by decide +kernel
theorem d_Nd_commit_10 : decode m_Nd_commit.2.1 10 = .ok (.iload_n 1, 1) := by decide +kernel
theorem d_Nd_commit_11 : decode m_Nd_commit.2.1 11 = .ok (.invokevirtual 157, 3) := by decide +kernel
theorem d_Nd_commit_14 : decode m_Nd_commit.2.1 14 = .ok (.ifCond .eq 30, 3) := by decide +kernel
theorem d_Nd_commit_17 : decode m_Nd_commit.2.1 17 = .ok (.aload_n 0, 1) := by decide +kernel
theorem d_Nd_commit_18 : decode m_Nd_commit.2.1 18 = .ok (.getfield 20, 3) := by decide +kernel
theorem d_Nd_commit_21 : decode m_Nd_commit.2.1 21 = .ok (.iload_n 1, 1) := by decide +kernel
theorem d_Nd_commit_22 : decode m_Nd_commit.2.1 22 = .ok (.invokevirtual 56, 3) := by decide +kernel
theorem d_Nd_commit_25 : decode m_Nd_commit.2.1 25 = .ok (.ifCond .ne 19, 3) := by decide +kernel
theorem d_Nd_commit_28 : decode m_Nd_commit.2.1 28 = .ok (.aload_n 0, 1) := by decide +kernel
theorem d_Nd_commit_29 : decode m_Nd_commit.2.1 29 = .ok (.getfield 20, 3) := by decide +kernel
theorem d_Nd_commit_32 : decode m_Nd_commit.2.1 32 = .ok (.iload_n 1, 1) := by decide +kernel
theorem d_Nd_commit_33 : decode m_Nd_commit.2.1 33 = .ok (.invokevirtual 60, 3) := by decide +kernel
theorem d_Nd_commit_36 : decode m_Nd_commit.2.1 36 = .ok (.aload_n 0, 1) := by decide +kernel
theorem d_Nd_commit_37 : decode m_Nd_commit.2.1 37 = .ok (.getfield 14, 3) := by decide +kernel
theorem d_Nd_commit_40 : decode m_Nd_commit.2.1 40 = .ok (.iload_n 1, 1) := by decide +kernel
theorem d_Nd_commit_41 : decode m_Nd_commit.2.1 41 = .ok (.invokevirtual 160, 3) := by decide +kernel
theorem d_Nd_commit_44 : decode m_Nd_commit.2.1 44 = .ok (.iinc 1 1, 3) := by decide +kernel
theorem d_Nd_commit_47 : decode m_Nd_commit.2.1 47 = .ok (.goto (-45), 3) := by decide +kernel
theorem d_Nd_commit_50 : decode m_Nd_commit.2.1 50 = .ok (.aload_n 0, 1) := by decide +kernel
theorem d_Nd_commit_51 : decode m_Nd_commit.2.1 51 = .ok (.dup, 1) := by decide +kernel
theorem d_Nd_commit_52 : decode m_Nd_commit.2.1 52 = .ok (.getfield 35, 3) := by decide +kernel
theorem d_Nd_commit_55 : decode m_Nd_commit.2.1 55 = .ok (.iconst 1, 1) := by decide +kernel
theorem d_Nd_commit_56 : decode m_Nd_commit.2.1 56 = .ok (.iadd, 1) := by decide +kernel
theorem d_Nd_commit_57 : decode m_Nd_commit.2.1 57 = .ok (.putfield 35, 3) := by decide +kernel
theorem d_Nd_commit_60 : decode m_Nd_commit.2.1 60 = .ok (.return_, 1) := by decide +kernel
theorem d_Nd_isAccepted_0 : decode m_Nd_isAccepted.2.1 0 = .ok (.iconst 0, 1) := by decide +kernel
theorem d_Nd_isAccepted_1 : decode m_Nd_isAccepted.2.1 1 = .ok (.istore_n 2, 1) := by decide +kernel
theorem d_Nd_isAccepted_2 : decode m_Nd_isAccepted.2.1 2 = .ok (.iload_n 2, 1) := by decide +kernel
theorem d_Nd_isAccepted_3 : decode m_Nd_isAccepted.2.1 3 = .ok (.iconst 4, 1) := by decide +kernel
theorem d_Nd_isAccepted_4 : decode m_Nd_isAccepted.2.1 4 = .ok (.if_icmp .ge 65, 3) := by decide +kernel
theorem d_Nd_isAccepted_7 : decode m_Nd_isAccepted.2.1 7 = .ok (.aload_n 0, 1) := by decide +kernel
theorem d_Nd_isAccepted_8 : decode m_Nd_isAccepted.2.1 8 = .ok (.iload_n 2, 1) := by decide +kernel
theorem d_Nd_isAccepted_9 : decode m_Nd_isAccepted.2.1 9 = .ok (.invokevirtual 122, 3) := by decide +kernel
theorem d_Nd_isAccepted_12 : decode m_Nd_isAccepted.2.1 12 = .ok (.getfield 139, 3) := by decide +kernel
theorem d_Nd_isAccepted_15 : decode m_Nd_isAccepted.2.1 15 = .ok (.istore_n 3, 1) := by decide +kernel
theorem d_Nd_isAccepted_16 : decode m_Nd_isAccepted.2.1 16 = .ok (.iload_n 3, 1) := by decide +kernel
theorem d_Nd_isAccepted_17 : decode m_Nd_isAccepted.2.1 17 = .ok (.sipush 255, 3) := by decide +kernel
theorem d_Nd_isAccepted_20 : decode m_Nd_isAccepted.2.1 20 = .ok (.iand, 1) := by decide +kernel
theorem d_Nd_isAccepted_21 : decode m_Nd_isAccepted.2.1 21 = .ok (.iload_n 1, 1) := by decide +kernel
theorem d_Nd_isAccepted_22 : decode m_Nd_isAccepted.2.1 22 = .ok (.if_icmp .eq 15, 3) := by decide +kernel
theorem d_Nd_isAccepted_25 : decode m_Nd_isAccepted.2.1 25 = .ok (.iload_n 3, 1) := by decide +kernel
theorem d_Nd_isAccepted_26 : decode m_Nd_isAccepted.2.1 26 = .ok (.bipush 8, 2) := by decide +kernel
theorem d_Nd_isAccepted_28 : decode m_Nd_isAccepted.2.1 28 = .ok (.ishr, 1) := by decide +kernel
theorem d_Nd_isAccepted_29 : decode m_Nd_isAccepted.2.1 29 = .ok (.sipush 255, 3) := by decide +kernel
theorem d_Nd_isAccepted_32 : decode m_Nd_isAccepted.2.1 32 = .ok (.iand, 1) := by decide +kernel
theorem d_Nd_isAccepted_33 : decode m_Nd_isAccepted.2.1 33 = .ok (.iload_n 1, 1) := by decide +kernel
theorem d_Nd_isAccepted_34 : decode m_Nd_isAccepted.2.1 34 = .ok (.if_icmp .ne 7, 3) := by decide +kernel
theorem d_Nd_isAccepted_37 : decode m_Nd_isAccepted.2.1 37 = .ok (.iconst 1, 1) := by decide +kernel
theorem d_Nd_isAccepted_38 : decode m_Nd_isAccepted.2.1 38 = .ok (.goto 4, 3) := by decide +kernel
theorem d_Nd_isAccepted_41 : decode m_Nd_isAccepted.2.1 41 = .ok (.iconst 0, 1) := by decide +kernel
theorem d_Nd_isAccepted_42 : decode m_Nd_isAccepted.2.1 42 = .ok (.istore 4, 2) := by decide +kernel
theorem d_Nd_isAccepted_44 : decode m_Nd_isAccepted.2.1 44 = .ok (.iload 4, 2) := by decide +kernel
theorem d_Nd_isAccepted_46 : decode m_Nd_isAccepted.2.1 46 = .ok (.ifCond .eq 17, 3) := by decide +kernel
theorem d_Nd_isAccepted_49 : decode m_Nd_isAccepted.2.1 49 = .ok (.aload_n 0, 1) := by decide +kernel
theorem d_Nd_isAccepted_50 : decode m_Nd_isAccepted.2.1 50 = .ok (.iload_n 2, 1) := by decide +kernel
theorem d_Nd_isAccepted_51 : decode m_Nd_isAccepted.2.1 51 = .ok (.invokevirtual 126, 3) := by decide +kernel
theorem d_Nd_isAccepted_54 : decode m_Nd_isAccepted.2.1 54 = .ok (.getfield 151, 3) := by decide +kernel
theorem d_Nd_isAccepted_57 : decode m_Nd_isAccepted.2.1 57 = .ok (.iconst 1, 1) := by decide +kernel
theorem d_Nd_isAccepted_58 : decode m_Nd_isAccepted.2.1 58 = .ok (.if_icmp .ne 5, 3) := by decide +kernel
theorem d_Nd_isAccepted_61 : decode m_Nd_isAccepted.2.1 61 = .ok (.iconst 1, 1) := by decide +kernel
theorem d_Nd_isAccepted_62 : decode m_Nd_isAccepted.2.1 62 = .ok (.ireturn, 1) := by decide +kernel
theorem d_Nd_isAccepted_63 : decode m_Nd_isAccepted.2.1 63 = .ok (.iinc 2 1, 3) := by decide +kernel
theorem d_Nd_isAccepted_66 : decode m_Nd_isAccepted.2.1 66 = .ok (.goto (-64), 3) := by decide +kernel
theorem d_Nd_isAccepted_69 : decode m_Nd_isAccepted.2.1 69 = .ok (.iconst 0, 1) := by decide +kernel
theorem d_Nd_isAccepted_70 : decode m_Nd_isAccepted.2.1 70 = .ok (.ireturn, 1) := by decide +kernel
theorem d_Rw_drop_0 : decode m_Rw_drop.2.1 0 = .ok (.iconst 0, 1) := by decide +kernel
theorem d_Rw_drop_1 : decode m_Rw_drop.2.1 1 = .ok (.istore_n 2, 1) := by decide +kernel
theorem d_Rw_drop_2 : decode m_Rw_drop.2.1 2 = .ok (.iconst 0, 1) := by decide +kernel
theorem d_Rw_drop_3 : decode m_Rw_drop.2.1 3 = .ok (.istore_n 3, 1) := by decide +kernel
theorem d_Rw_drop_4 : decode m_Rw_drop.2.1 4 = .ok (.iload_n 3, 1) := by decide +kernel
theorem d_Rw_drop_5 : decode m_Rw_drop.2.1 5 = .ok (.aload_n 0, 1) := by decide +kernel
theorem d_Rw_drop_6 : decode m_Rw_drop.2.1 6 = .ok (.getfield 15, 3) := by decide +kernel
theorem d_Rw_drop_9 : decode m_Rw_drop.2.1 9 = .ok (.if_icmp .ge 34, 3) := by decide +kernel
theorem d_Rw_drop_12 : decode m_Rw_drop.2.1 12 = .ok (.aload_n 0, 1) := by decide +kernel
theorem d_Rw_drop_13 : decode m_Rw_drop.2.1 13 = .ok (.getfield 9, 3) := by decide +kernel
theorem d_Rw_drop_16 : decode m_Rw_drop.2.1 16 = .ok (.iload_n 3, 1) := by decide +kernel
theorem d_Rw_drop_17 : decode m_Rw_drop.2.1 17 = .ok (.iaload, 1) := by decide +kernel
theorem d_Rw_drop_18 : decode m_Rw_drop.2.1 18 = .ok (.iload_n 1, 1) := by decide +kernel
theorem d_Rw_drop_19 : decode m_Rw_drop.2.1 19 = .ok (.if_icmp .eq 18, 3) := by decide +kernel
theorem d_Rw_drop_22 : decode m_Rw_drop.2.1 22 = .ok (.aload_n 0, 1) := by decide +kernel
theorem d_Rw_drop_23 : decode m_Rw_drop.2.1 23 = .ok (.getfield 9, 3) := by decide +kernel
theorem d_Rw_drop_26 : decode m_Rw_drop.2.1 26 = .ok (.iload_n 2, 1) := by decide +kernel
theorem d_Rw_drop_27 : decode m_Rw_drop.2.1 27 = .ok (.aload_n 0, 1) := by decide +kernel
theorem d_Rw_drop_28 : decode m_Rw_drop.2.1 28 = .ok (.getfield 9, 3) := by decide +kernel
theorem d_Rw_drop_31 : decode m_Rw_drop.2.1 31 = .ok (.iload_n 3, 1) := by decide +kernel
theorem d_Rw_drop_32 : decode m_Rw_drop.2.1 32 = .ok (.iaload, 1) := by decide +kernel
theorem d_Rw_drop_33 : decode m_Rw_drop.2.1 33 = .ok (.iastore, 1) := by decide +kernel
theorem d_Rw_drop_34 : decode m_Rw_drop.2.1 34 = .ok (.iinc 2 1, 3) := by decide +kernel
theorem d_Rw_drop_37 : decode m_Rw_drop.2.1 37 = .ok (.iinc 3 1, 3) := by decide +kernel
theorem d_Rw_drop_40 : decode m_Rw_drop.2.1 40 = .ok (.goto (-36), 3) := by decide +kernel
theorem d_Rw_drop_43 : decode m_Rw_drop.2.1 43 = .ok (.aload_n 0, 1) := by decide +kernel
theorem d_Rw_drop_44 : decode m_Rw_drop.2.1 44 = .ok (.iload_n 2, 1) := by decide +kernel
theorem d_Rw_drop_45 : decode m_Rw_drop.2.1 45 = .ok (.putfield 15, 3) := by decide +kernel
theorem d_Rw_drop_48 : decode m_Rw_drop.2.1 48 = .ok (.return_, 1) := by decide +kernel
theorem d_El_run_0 : decode m_El_run.2.1 0 = .ok (.iload_n 1, 1) := by decide +kernel
theorem d_El_run_1 : decode m_El_run.2.1 1 = .ok (.invokestatic 30, 3) := by decide +kernel
theorem d_El_run_4 : decode m_El_run.2.1 4 = .ok (.ifCond .eq 13, 3) := by decide +kernel
theorem d_El_run_7 : decode m_El_run.2.1 7 = .ok (.iload_n 2, 1) := by decide +kernel
theorem d_El_run_8 : decode m_El_run.2.1 8 = .ok (.iconst 0, 1) := by decide +kernel
theorem d_El_run_9 : decode m_El_run.2.1 9 = .ok (.bipush 60, 2) := by decide +kernel
theorem d_El_run_11 : decode m_El_run.2.1 11 = .ok (.invokestatic 34, 3) := by decide +kernel
theorem d_El_run_14 : decode m_El_run.2.1 14 = .ok (.ifCond .ne 5, 3) := by decide +kernel
theorem d_El_run_17 : decode m_El_run.2.1 17 = .ok (.iconst (-1), 1) := by decide +kernel
theorem d_El_run_18 : decode m_El_run.2.1 18 = .ok (.ireturn, 1) := by decide +kernel
theorem d_El_run_19 : decode m_El_run.2.1 19 = .ok (.iconst 0, 1) := by decide +kernel
theorem d_El_run_20 : decode m_El_run.2.1 20 = .ok (.istore_n 3, 1) := by decide +kernel
theorem d_El_run_21 : decode m_El_run.2.1 21 = .ok (.iload_n 3, 1) := by decide +kernel
theorem d_El_run_22 : decode m_El_run.2.1 22 = .ok (.iload_n 2, 1) := by decide +kernel
theorem d_El_run_23 : decode m_El_run.2.1 23 = .ok (.if_icmp .ge 38, 3) := by decide +kernel
theorem d_El_run_26 : decode m_El_run.2.1 26 = .ok (.aload_n 0, 1) := by decide +kernel
theorem d_El_run_27 : decode m_El_run.2.1 27 = .ok (.getfield 17, 3) := by decide +kernel
theorem d_El_run_30 : decode m_El_run.2.1 30 = .ok (.iload_n 1, 1) := by decide +kernel
theorem d_El_run_31 : decode m_El_run.2.1 31 = .ok (.invokevirtual 45, 3) := by decide +kernel
theorem d_El_run_34 : decode m_El_run.2.1 34 = .ok (.ifCond .le 27, 3) := by decide +kernel
theorem d_El_run_37 : decode m_El_run.2.1 37 = .ok (.aload_n 0, 1) := by decide +kernel
theorem d_El_run_38 : decode m_El_run.2.1 38 = .ok (.getfield 23, 3) := by decide +kernel
theorem d_El_run_41 : decode m_El_run.2.1 41 = .ok (.iload_n 1, 1) := by decide +kernel
theorem d_El_run_42 : decode m_El_run.2.1 42 = .ok (.aaload, 1) := by decide +kernel
theorem d_El_run_43 : decode m_El_run.2.1 43 = .ok (.aload_n 0, 1) := by decide +kernel
theorem d_El_run_44 : decode m_El_run.2.1 44 = .ok (.getfield 17, 3) := by decide +kernel
theorem d_El_run_47 : decode m_El_run.2.1 47 = .ok (.iload_n 1, 1) := by decide +kernel
theorem d_El_run_48 : decode m_El_run.2.1 48 = .ok (.iconst 0, 1) := by decide +kernel
theorem d_El_run_49 : decode m_El_run.2.1 49 = .ok (.invokevirtual 49, 3) := by decide +kernel
theorem d_El_run_52 : decode m_El_run.2.1 52 = .ok (.invokevirtual 53, 3) := by decide +kernel
theorem d_El_run_55 : decode m_El_run.2.1 55 = .ok (.iinc 3 1, 3) := by decide +kernel
theorem d_El_run_58 : decode m_El_run.2.1 58 = .ok (.goto (-37), 3) := by decide +kernel
theorem d_El_run_61 : decode m_El_run.2.1 61 = .ok (.iload_n 3, 1) := by decide +kernel
theorem d_El_run_62 : decode m_El_run.2.1 62 = .ok (.ireturn, 1) := by decide +kernel
theorem d_Nt_countFor_0 : decode m_Nt_countFor.2.1 0 = .ok (.aload_n 0, 1) := by decide +kernel
theorem d_Nt_countFor_1 : decode m_Nt_countFor.2.1 1 = .ok (.getfield 11, 3) := by decide +kernel
theorem d_Nt_countFor_4 : decode m_Nt_countFor.2.1 4 = .ok (.iload_n 1, 1) := by decide +kernel
theorem d_Nt_countFor_5 : decode m_Nt_countFor.2.1 5 = .ok (.aaload, 1) := by decide +kernel
theorem d_Nt_countFor_6 : decode m_Nt_countFor.2.1 6 = .ok (.getfield 18, 3) := by decide +kernel
theorem d_Nt_countFor_9 : decode m_Nt_countFor.2.1 9 = .ok (.invokevirtual 28, 3) := by decide +kernel
theorem d_Nt_countFor_12 : decode m_Nt_countFor.2.1 12 = .ok (.ireturn, 1) := by decide +kernel
theorem d_Al_size_0 : decode m_Al_size.2.1 0 = .ok (.aload_n 0, 1) := by decide +kernel
theorem d_Al_size_1 : decode m_Al_size.2.1 1 = .ok (.getfield 48, 3) := by decide +kernel
theorem d_Al_size_4 : decode m_Al_size.2.1 4 = .ok (.ireturn, 1) := by decide +kernel
theorem d_Nt_remove_0 : decode m_Nt_remove.2.1 0 = .ok (.aload_n 0, 1) := by decide +kernel
theorem d_Nt_remove_1 : decode m_Nt_remove.2.1 1 = .ok (.getfield 11, 3) := by decide +kernel
theorem d_Nt_remove_4 : decode m_Nt_remove.2.1 4 = .ok (.iload_n 1, 1) := by decide +kernel
theorem d_Nt_remove_5 : decode m_Nt_remove.2.1 5 = .ok (.aaload, 1) := by decide +kernel
theorem d_Nt_remove_6 : decode m_Nt_remove.2.1 6 = .ok (.getfield 18, 3) := by decide +kernel
theorem d_Nt_remove_9 : decode m_Nt_remove.2.1 9 = .ok (.iload_n 2, 1) := by decide +kernel
theorem d_Nt_remove_10 : decode m_Nt_remove.2.1 10 = .ok (.invokevirtual 32, 3) := by decide +kernel
theorem d_Nt_remove_13 : decode m_Nt_remove.2.1 13 = .ok (.checkcast 36, 3) := by decide +kernel
theorem d_Nt_remove_16 : decode m_Nt_remove.2.1 16 = .ok (.areturn, 1) := by decide +kernel
theorem d_Al_remove_0 : decode m_Al_remove.2.1 0 = .ok (.iload_n 1, 1) := by decide +kernel
theorem d_Al_remove_1 : decode m_Al_remove.2.1 1 = .ok (.aload_n 0, 1) := by decide +kernel
theorem d_Al_remove_2 : decode m_Al_remove.2.1 2 = .ok (.getfield 48, 3) := by decide +kernel
theorem d_Al_remove_5 : decode m_Al_remove.2.1 5 = .ok (.invokestatic 118, 3) := by decide +kernel
theorem d_Al_remove_8 : decode m_Al_remove.2.1 8 = .ok (.pop, 1) := by decide +kernel
theorem d_Al_remove_9 : decode m_Al_remove.2.1 9 = .ok (.aload_n 0, 1) := by decide +kernel
theorem d_Al_remove_10 : decode m_Al_remove.2.1 10 = .ok (.getfield 9, 3) := by decide +kernel
theorem d_Al_remove_13 : decode m_Al_remove.2.1 13 = .ok (.astore_n 2, 1) := by decide +kernel
theorem d_Al_remove_14 : decode m_Al_remove.2.1 14 = .ok (.aload_n 2, 1) := by decide +kernel
theorem d_Al_remove_15 : decode m_Al_remove.2.1 15 = .ok (.iload_n 1, 1) := by decide +kernel
theorem d_Al_remove_16 : decode m_Al_remove.2.1 16 = .ok (.aaload, 1) := by decide +kernel
theorem d_Al_remove_17 : decode m_Al_remove.2.1 17 = .ok (.astore_n 3, 1) := by decide +kernel
theorem d_Al_remove_18 : decode m_Al_remove.2.1 18 = .ok (.aload_n 0, 1) := by decide +kernel
theorem d_Al_remove_19 : decode m_Al_remove.2.1 19 = .ok (.aload_n 2, 1) := by decide +kernel
theorem d_Al_remove_20 : decode m_Al_remove.2.1 20 = .ok (.iload_n 1, 1) := by decide +kernel
theorem d_Al_remove_21 : decode m_Al_remove.2.1 21 = .ok (.invokevirtual 144, 3) := by decide +kernel
theorem d_Al_remove_24 : decode m_Al_remove.2.1 24 = .ok (.aload_n 3, 1) := by decide +kernel
theorem d_Al_remove_25 : decode m_Al_remove.2.1 25 = .ok (.areturn, 1) := by decide +kernel
theorem d_Os_checkIndex_0 : decode m_Os_checkIndex.2.1 0 = .ok (.iload_n 0, 1) := by decide +kernel
theorem d_Os_checkIndex_1 : decode m_Os_checkIndex.2.1 1 = .ok (.iload_n 1, 1) := by decide +kernel
theorem d_Os_checkIndex_2 : decode m_Os_checkIndex.2.1 2 = .ok (.aconst_null, 1) := by decide +kernel
theorem d_Os_checkIndex_3 : decode m_Os_checkIndex.2.1 3 = .ok (.invokestatic 105, 3) := by decide +kernel
theorem d_Os_checkIndex_6 : decode m_Os_checkIndex.2.1 6 = .ok (.ireturn, 1) := by decide +kernel
theorem d_Pr_checkIndex_0 : decode m_Pr_checkIndex.2.1 0 = .ok (.iload_n 0, 1) := by decide +kernel
theorem d_Pr_checkIndex_1 : decode m_Pr_checkIndex.2.1 1 = .ok (.ifCond .lt 8, 3) := by decide +kernel
theorem d_Pr_checkIndex_4 : decode m_Pr_checkIndex.2.1 4 = .ok (.iload_n 0, 1) := by decide +kernel
theorem d_Pr_checkIndex_5 : decode m_Pr_checkIndex.2.1 5 = .ok (.iload_n 1, 1) := by decide +kernel
theorem d_Pr_checkIndex_6 : decode m_Pr_checkIndex.2.1 6 = .ok (.if_icmp .lt 10, 3) := by decide +kernel
theorem d_Pr_checkIndex_9 : decode m_Pr_checkIndex.2.1 9 = .ok (.aload_n 2, 1) := by decide +kernel
theorem d_Pr_checkIndex_10 : decode m_Pr_checkIndex.2.1 10 = .ok (.iload_n 0, 1) := by decide +kernel
theorem d_Pr_checkIndex_11 : decode m_Pr_checkIndex.2.1 11 = .ok (.iload_n 1, 1) := by decide +kernel
theorem d_Pr_checkIndex_12 : decode m_Pr_checkIndex.2.1 12 = .ok (.invokestatic 95, 3) := by decide +kernel
theorem d_Pr_checkIndex_15 : decode m_Pr_checkIndex.2.1 15 = .ok (.athrow, 1) := by decide +kernel
theorem d_Pr_checkIndex_16 : decode m_Pr_checkIndex.2.1 16 = .ok (.iload_n 0, 1) := by decide +kernel
theorem d_Pr_checkIndex_17 : decode m_Pr_checkIndex.2.1 17 = .ok (.ireturn, 1) := by decide +kernel
theorem d_Al_fastRemove_0 : decode m_Al_fastRemove.2.1 0 = .ok (.aload_n 0, 1) := by decide +kernel
theorem d_Al_fastRemove_1 : decode m_Al_fastRemove.2.1 1 = .ok (.dup, 1) := by decide +kernel
theorem d_Al_fastRemove_2 : decode m_Al_fastRemove.2.1 2 = .ok (.getfield 63, 3) := by decide +kernel
theorem d_Al_fastRemove_5 : decode m_Al_fastRemove.2.1 5 = .ok (.iconst 1, 1) := by decide +kernel
theorem d_Al_fastRemove_6 : decode m_Al_fastRemove.2.1 6 = .ok (.iadd, 1) := by decide +kernel
theorem d_Al_fastRemove_7 : decode m_Al_fastRemove.2.1 7 = .ok (.putfield 63, 3) := by decide +kernel
theorem d_Al_fastRemove_10 : decode m_Al_fastRemove.2.1 10 = .ok (.aload_n 0, 1) := by decide +kernel
theorem d_Al_fastRemove_11 : decode m_Al_fastRemove.2.1 11 = .ok (.getfield 48, 3) := by decide +kernel
theorem d_Al_fastRemove_14 : decode m_Al_fastRemove.2.1 14 = .ok (.iconst 1, 1) := by decide +kernel
theorem d_Al_fastRemove_15 : decode m_Al_fastRemove.2.1 15 = .ok (.isub, 1) := by decide +kernel
theorem d_Al_fastRemove_16 : decode m_Al_fastRemove.2.1 16 = .ok (.dup, 1) := by decide +kernel
theorem d_Al_fastRemove_17 : decode m_Al_fastRemove.2.1 17 = .ok (.istore_n 3, 1) := by decide +kernel
theorem d_Al_fastRemove_18 : decode m_Al_fastRemove.2.1 18 = .ok (.iload_n 2, 1) := by decide +kernel
theorem d_Al_fastRemove_19 : decode m_Al_fastRemove.2.1 19 = .ok (.if_icmp .le 15, 3) := by decide +kernel
theorem d_Al_fastRemove_22 : decode m_Al_fastRemove.2.1 22 = .ok (.aload_n 1, 1) := by decide +kernel
theorem d_Al_fastRemove_23 : decode m_Al_fastRemove.2.1 23 = .ok (.iload_n 2, 1) := by decide +kernel
theorem d_Al_fastRemove_24 : decode m_Al_fastRemove.2.1 24 = .ok (.iconst 1, 1) := by decide +kernel
theorem d_Al_fastRemove_25 : decode m_Al_fastRemove.2.1 25 = .ok (.iadd, 1) := by decide +kernel
theorem d_Al_fastRemove_26 : decode m_Al_fastRemove.2.1 26 = .ok (.aload_n 1, 1) := by decide +kernel
theorem d_Al_fastRemove_27 : decode m_Al_fastRemove.2.1 27 = .ok (.iload_n 2, 1) := by decide +kernel
theorem d_Al_fastRemove_28 : decode m_Al_fastRemove.2.1 28 = .ok (.iload_n 3, 1) := by decide +kernel
theorem d_Al_fastRemove_29 : decode m_Al_fastRemove.2.1 29 = .ok (.iload_n 2, 1) := by decide +kernel
theorem d_Al_fastRemove_30 : decode m_Al_fastRemove.2.1 30 = .ok (.isub, 1) := by decide +kernel
theorem d_Al_fastRemove_31 : decode m_Al_fastRemove.2.1 31 = .ok (.invokestatic 112, 3) := by decide +kernel
theorem d_Al_fastRemove_34 : decode m_Al_fastRemove.2.1 34 = .ok (.aload_n 1, 1) := by decide +kernel
theorem d_Al_fastRemove_35 : decode m_Al_fastRemove.2.1 35 = .ok (.aload_n 0, 1) := by decide +kernel
theorem d_Al_fastRemove_36 : decode m_Al_fastRemove.2.1 36 = .ok (.iload_n 3, 1) := by decide +kernel
theorem d_Al_fastRemove_37 : decode m_Al_fastRemove.2.1 37 = .ok (.dup_x1, 1) := by decide +kernel
theorem d_Al_fastRemove_38 : decode m_Al_fastRemove.2.1 38 = .ok (.putfield 48, 3) := by decide +kernel
theorem d_Al_fastRemove_41 : decode m_Al_fastRemove.2.1 41 = .ok (.aconst_null, 1) := by decide +kernel
theorem d_Al_fastRemove_42 : decode m_Al_fastRemove.2.1 42 = .ok (.aastore, 1) := by decide +kernel
theorem d_Al_fastRemove_43 : decode m_Al_fastRemove.2.1 43 = .ok (.return_, 1) := by decide +kernel
theorem d_Nd_take_0 : decode m_Nd_take.2.1 0 = .ok (.aload_n 0, 1) := by decide +kernel
theorem d_Nd_take_1 : decode m_Nd_take.2.1 1 = .ok (.getfield 63, 3) := by decide +kernel
theorem d_Nd_take_4 : decode m_Nd_take.2.1 4 = .ok (.ifCond .ne 14, 3) := by decide +kernel
theorem d_Nd_take_7 : decode m_Nd_take.2.1 7 = .ok (.aload_n 1, 1) := by decide +kernel
theorem d_Nd_take_8 : decode m_Nd_take.2.1 8 = .ok (.getfield 74, 3) := by decide +kernel
theorem d_Nd_take_11 : decode m_Nd_take.2.1 11 = .ok (.aload_n 0, 1) := by decide +kernel
theorem d_Nd_take_12 : decode m_Nd_take.2.1 12 = .ok (.getfield 35, 3) := by decide +kernel
theorem d_Nd_take_15 : decode m_Nd_take.2.1 15 = .ok (.if_icmp .ge 4, 3) := by decide +kernel
theorem d_Nd_take_18 : decode m_Nd_take.2.1 18 = .ok (.return_, 1) := by decide +kernel
theorem d_Nd_take_19 : decode m_Nd_take.2.1 19 = .ok (.aload_n 1, 1) := by decide +kernel
theorem d_Nd_take_20 : decode m_Nd_take.2.1 20 = .ok (.getfield 74, 3) := by decide +kernel
theorem d_Nd_take_23 : decode m_Nd_take.2.1 23 = .ok (.iconst 4, 1) := by decide +kernel
theorem d_Nd_take_24 : decode m_Nd_take.2.1 24 = .ok (.imul, 1) := by decide +kernel
theorem d_Nd_take_25 : decode m_Nd_take.2.1 25 = .ok (.aload_n 1, 1) := by decide +kernel
theorem d_Nd_take_26 : decode m_Nd_take.2.1 26 = .ok (.getfield 77, 3) := by decide +kernel
theorem d_Nd_take_29 : decode m_Nd_take.2.1 29 = .ok (.iadd, 1) := by decide +kernel
theorem d_Nd_take_30 : decode m_Nd_take.2.1 30 = .ok (.istore_n 2, 1) := by decide +kernel
theorem d_Nd_take_31 : decode m_Nd_take.2.1 31 = .ok (.aload_n 1, 1) := by decide +kernel
theorem d_Nd_take_32 : decode m_Nd_take.2.1 32 = .ok (.getfield 80, 3) := by decide +kernel
theorem d_Nd_take_35 : decode m_Nd_take.2.1 35 = .ok (.iconst 3, 1) := by decide +kernel
theorem d_Nd_take_36 : decode m_Nd_take.2.1 36 = .ok (.if_icmp .lt 16, 3) := by decide +kernel
theorem d_Nd_take_39 : decode m_Nd_take.2.1 39 = .ok (.aload_n 0, 1) := by decide +kernel
theorem d_Nd_take_40 : decode m_Nd_take.2.1 40 = .ok (.getfield 31, 3) := by decide +kernel
theorem d_Nd_take_43 : decode m_Nd_take.2.1 43 = .ok (.iload_n 2, 1) := by decide +kernel
theorem d_Nd_take_44 : decode m_Nd_take.2.1 44 = .ok (.aaload, 1) := by decide +kernel
theorem d_Nd_take_45 : decode m_Nd_take.2.1 45 = .ok (.aload_n 1, 1) := by decide +kernel
theorem d_Nd_take_46 : decode m_Nd_take.2.1 46 = .ok (.invokevirtual 83, 3) := by decide +kernel
theorem d_Nd_take_49 : decode m_Nd_take.2.1 49 = .ok (.goto 13, 3) := by decide +kernel
theorem d_Nd_take_52 : decode m_Nd_take.2.1 52 = .ok (.aload_n 0, 1) := by decide +kernel
theorem d_Nd_take_53 : decode m_Nd_take.2.1 53 = .ok (.getfield 25, 3) := by decide +kernel
theorem d_Nd_take_56 : decode m_Nd_take.2.1 56 = .ok (.iload_n 2, 1) := by decide +kernel
theorem d_Nd_take_57 : decode m_Nd_take.2.1 57 = .ok (.aaload, 1) := by decide +kernel
theorem d_Nd_take_58 : decode m_Nd_take.2.1 58 = .ok (.aload_n 1, 1) := by decide +kernel
theorem d_Nd_take_59 : decode m_Nd_take.2.1 59 = .ok (.invokevirtual 87, 3) := by decide +kernel
theorem d_Nd_take_62 : decode m_Nd_take.2.1 62 = .ok (.aload_n 1, 1) := by decide +kernel
theorem d_Nd_take_63 : decode m_Nd_take.2.1 63 = .ok (.getfield 74, 3) := by decide +kernel
theorem d_Nd_take_66 : decode m_Nd_take.2.1 66 = .ok (.aload_n 0, 1) := by decide +kernel
theorem d_Nd_take_67 : decode m_Nd_take.2.1 67 = .ok (.getfield 35, 3) := by decide +kernel
theorem d_Nd_take_70 : decode m_Nd_take.2.1 70 = .ok (.if_icmp .ne 15, 3) := by decide +kernel
theorem d_Nd_take_73 : decode m_Nd_take.2.1 73 = .ok (.aload_n 0, 1) := by decide +kernel
theorem d_Nd_take_74 : decode m_Nd_take.2.1 74 = .ok (.aload_n 1, 1) := by decide +kernel
theorem d_Nd_take_75 : decode m_Nd_take.2.1 75 = .ok (.getfield 77, 3) := by decide +kernel
theorem d_Nd_take_78 : decode m_Nd_take.2.1 78 = .ok (.aload_n 1, 1) := by decide +kernel
theorem d_Nd_take_79 : decode m_Nd_take.2.1 79 = .ok (.getfield 77, 3) := by decide +kernel
theorem d_Nd_take_82 : decode m_Nd_take.2.1 82 = .ok (.invokevirtual 70, 3) := by decide +kernel
theorem d_Nd_take_85 : decode m_Nd_take.2.1 85 = .ok (.return_, 1) := by decide +kernel
theorem d_Ag_keep_0 : decode m_Ag_keep.2.1 0 = .ok (.iconst 2, 1) := by decide +kernel
theorem d_Ag_keep_1 : decode m_Ag_keep.2.1 1 = .ok (.aload_n 1, 1) := by decide +kernel
theorem d_Ag_keep_2 : decode m_Ag_keep.2.1 2 = .ok (.getfield 44, 3) := by decide +kernel
theorem d_Ag_keep_5 : decode m_Ag_keep.2.1 5 = .ok (.imul, 1) := by decide +kernel
theorem d_Ag_keep_6 : decode m_Ag_keep.2.1 6 = .ok (.aload_n 1, 1) := by decide +kernel
theorem d_Ag_keep_7 : decode m_Ag_keep.2.1 7 = .ok (.getfield 49, 3) := by decide +kernel
theorem d_Ag_keep_10 : decode m_Ag_keep.2.1 10 = .ok (.iadd, 1) := by decide +kernel
theorem d_Ag_keep_11 : decode m_Ag_keep.2.1 11 = .ok (.istore_n 2, 1) := by decide +kernel
theorem d_Ag_keep_12 : decode m_Ag_keep.2.1 12 = .ok (.iconst 1, 1) := by decide +kernel
theorem d_Ag_keep_13 : decode m_Ag_keep.2.1 13 = .ok (.aload_n 1, 1) := by decide +kernel
theorem d_Ag_keep_14 : decode m_Ag_keep.2.1 14 = .ok (.getfield 52, 3) := by decide +kernel
theorem d_Ag_keep_17 : decode m_Ag_keep.2.1 17 = .ok (.ishl, 1) := by decide +kernel
