theorem d_Ag_keep_18 : decode m_Ag_keep.2.1 18 = .ok (.istore_n 3, 1) := by decide +kernel
theorem d_Ag_keep_19 : decode m_Ag_keep.2.1 19 = .ok (.aload_n 1, 1) := by decide +kernel
theorem d_Ag_keep_20 : decode m_Ag_keep.2.1 20 = .ok (.getfield 55, 3) := by decide +kernel
theorem d_Ag_keep_23 : decode m_Ag_keep.2.1 23 = .ok (.iconst 3, 1) := by decide +kernel
theorem d_Ag_keep_24 : decode m_Ag_keep.2.1 24 = .ok (.if_icmp .ne 16, 3) := by decide +kernel
theorem d_Ag_keep_27 : decode m_Ag_keep.2.1 27 = .ok (.aload_n 0, 1) := by decide +kernel
theorem d_Ag_keep_28 : decode m_Ag_keep.2.1 28 = .ok (.getfield 9, 3) := by decide +kernel
theorem d_Ag_keep_31 : decode m_Ag_keep.2.1 31 = .ok (.iload_n 2, 1) := by decide +kernel
theorem d_Ag_keep_32 : decode m_Ag_keep.2.1 32 = .ok (.dup2, 1) := by decide +kernel
theorem d_Ag_keep_33 : decode m_Ag_keep.2.1 33 = .ok (.iaload, 1) := by decide +kernel
theorem d_Ag_keep_34 : decode m_Ag_keep.2.1 34 = .ok (.iload_n 3, 1) := by decide +kernel
theorem d_Ag_keep_35 : decode m_Ag_keep.2.1 35 = .ok (.ior, 1) := by decide +kernel
theorem d_Ag_keep_36 : decode m_Ag_keep.2.1 36 = .ok (.iastore, 1) := by decide +kernel
theorem d_Ag_keep_37 : decode m_Ag_keep.2.1 37 = .ok (.goto 43, 3) := by decide +kernel
theorem d_Ag_keep_40 : decode m_Ag_keep.2.1 40 = .ok (.aload_n 0, 1) := by decide +kernel
theorem d_Ag_keep_41 : decode m_Ag_keep.2.1 41 = .ok (.getfield 15, 3) := by decide +kernel
theorem d_Ag_keep_44 : decode m_Ag_keep.2.1 44 = .ok (.iconst 2, 1) := by decide +kernel
theorem d_Ag_keep_45 : decode m_Ag_keep.2.1 45 = .ok (.aload_n 1, 1) := by decide +kernel
theorem d_Ag_keep_46 : decode m_Ag_keep.2.1 46 = .ok (.getfield 44, 3) := by decide +kernel
theorem d_Ag_keep_49 : decode m_Ag_keep.2.1 49 = .ok (.imul, 1) := by decide +kernel
theorem d_Ag_keep_50 : decode m_Ag_keep.2.1 50 = .ok (.iaload, 1) := by decide +kernel
theorem d_Ag_keep_51 : decode m_Ag_keep.2.1 51 = .ok (.aload_n 0, 1) := by decide +kernel
theorem d_Ag_keep_52 : decode m_Ag_keep.2.1 52 = .ok (.getfield 15, 3) := by decide +kernel
theorem d_Ag_keep_55 : decode m_Ag_keep.2.1 55 = .ok (.iconst 2, 1) := by decide +kernel
theorem d_Ag_keep_56 : decode m_Ag_keep.2.1 56 = .ok (.aload_n 1, 1) := by decide +kernel
theorem d_Ag_keep_57 : decode m_Ag_keep.2.1 57 = .ok (.getfield 44, 3) := by decide +kernel
theorem d_Ag_keep_60 : decode m_Ag_keep.2.1 60 = .ok (.imul, 1) := by decide +kernel
theorem d_Ag_keep_61 : decode m_Ag_keep.2.1 61 = .ok (.iconst 1, 1) := by decide +kernel
theorem d_Ag_keep_62 : decode m_Ag_keep.2.1 62 = .ok (.iadd, 1) := by decide +kernel
theorem d_Ag_keep_63 : decode m_Ag_keep.2.1 63 = .ok (.iaload, 1) := by decide +kernel
theorem d_Ag_keep_64 : decode m_Ag_keep.2.1 64 = .ok (.ior, 1) := by decide +kernel
theorem d_Ag_keep_65 : decode m_Ag_keep.2.1 65 = .ok (.iload_n 3, 1) := by decide +kernel
theorem d_Ag_keep_66 : decode m_Ag_keep.2.1 66 = .ok (.iand, 1) := by decide +kernel
theorem d_Ag_keep_67 : decode m_Ag_keep.2.1 67 = .ok (.ifCond .ne 13, 3) := by decide +kernel
theorem d_Ag_keep_70 : decode m_Ag_keep.2.1 70 = .ok (.aload_n 0, 1) := by decide +kernel
theorem d_Ag_keep_71 : decode m_Ag_keep.2.1 71 = .ok (.getfield 15, 3) := by decide +kernel
theorem d_Ag_keep_74 : decode m_Ag_keep.2.1 74 = .ok (.iload_n 2, 1) := by decide +kernel
theorem d_Ag_keep_75 : decode m_Ag_keep.2.1 75 = .ok (.dup2, 1) := by decide +kernel
theorem d_Ag_keep_76 : decode m_Ag_keep.2.1 76 = .ok (.iaload, 1) := by decide +kernel
theorem d_Ag_keep_77 : decode m_Ag_keep.2.1 77 = .ok (.iload_n 3, 1) := by decide +kernel
theorem d_Ag_keep_78 : decode m_Ag_keep.2.1 78 = .ok (.ior, 1) := by decide +kernel
theorem d_Ag_keep_79 : decode m_Ag_keep.2.1 79 = .ok (.iastore, 1) := by decide +kernel
theorem d_Ag_keep_80 : decode m_Ag_keep.2.1 80 = .ok (.return_, 1) := by decide +kernel
theorem d_Bc_keep_0 : decode m_Bc_keep.2.1 0 = .ok (.aload_n 1, 1) := by decide +kernel
theorem d_Bc_keep_1 : decode m_Bc_keep.2.1 1 = .ok (.getfield 42, 3) := by decide +kernel
theorem d_Bc_keep_4 : decode m_Bc_keep.2.1 4 = .ok (.ifCond .ne 11, 3) := by decide +kernel
theorem d_Bc_keep_7 : decode m_Bc_keep.2.1 7 = .ok (.aload_n 0, 1) := by decide +kernel
theorem d_Bc_keep_8 : decode m_Bc_keep.2.1 8 = .ok (.aload_n 1, 1) := by decide +kernel
theorem d_Bc_keep_9 : decode m_Bc_keep.2.1 9 = .ok (.invokevirtual 47, 3) := by decide +kernel
theorem d_Bc_keep_12 : decode m_Bc_keep.2.1 12 = .ok (.goto 48, 3) := by decide +kernel
theorem d_Bc_keep_15 : decode m_Bc_keep.2.1 15 = .ok (.aload_n 1, 1) := by decide +kernel
theorem d_Bc_keep_16 : decode m_Bc_keep.2.1 16 = .ok (.getfield 42, 3) := by decide +kernel
theorem d_Bc_keep_19 : decode m_Bc_keep.2.1 19 = .ok (.iconst 1, 1) := by decide +kernel
theorem d_Bc_keep_20 : decode m_Bc_keep.2.1 20 = .ok (.if_icmp .ne 11, 3) := by decide +kernel
theorem d_Bc_keep_23 : decode m_Bc_keep.2.1 23 = .ok (.aload_n 0, 1) := by decide +kernel
theorem d_Bc_keep_24 : decode m_Bc_keep.2.1 24 = .ok (.aload_n 1, 1) := by decide +kernel
theorem d_Bc_keep_25 : decode m_Bc_keep.2.1 25 = .ok (.invokevirtual 51, 3) := by decide +kernel
theorem d_Bc_keep_28 : decode m_Bc_keep.2.1 28 = .ok (.goto 32, 3) := by decide +kernel
theorem d_Bc_keep_31 : decode m_Bc_keep.2.1 31 = .ok (.aload_n 0, 1) := by decide +kernel
theorem d_Bc_keep_32 : decode m_Bc_keep.2.1 32 = .ok (.getfield 22, 3) := by decide +kernel
theorem d_Bc_keep_35 : decode m_Bc_keep.2.1 35 = .ok (.aload_n 1, 1) := by decide +kernel
theorem d_Bc_keep_36 : decode m_Bc_keep.2.1 36 = .ok (.getfield 54, 3) := by decide +kernel
theorem d_Bc_keep_39 : decode m_Bc_keep.2.1 39 = .ok (.invokevirtual 57, 3) := by decide +kernel
theorem d_Bc_keep_42 : decode m_Bc_keep.2.1 42 = .ok (.ifCond .ne 18, 3) := by decide +kernel
theorem d_Bc_keep_45 : decode m_Bc_keep.2.1 45 = .ok (.aload_n 0, 1) := by decide +kernel
theorem d_Bc_keep_46 : decode m_Bc_keep.2.1 46 = .ok (.getfield 22, 3) := by decide +kernel
theorem d_Bc_keep_49 : decode m_Bc_keep.2.1 49 = .ok (.aload_n 1, 1) := by decide +kernel
theorem d_Bc_keep_50 : decode m_Bc_keep.2.1 50 = .ok (.getfield 54, 3) := by decide +kernel
theorem d_Bc_keep_53 : decode m_Bc_keep.2.1 53 = .ok (.aload_n 1, 1) := by decide +kernel
theorem d_Bc_keep_54 : decode m_Bc_keep.2.1 54 = .ok (.getfield 61, 3) := by decide +kernel
theorem d_Bc_keep_57 : decode m_Bc_keep.2.1 57 = .ok (.invokevirtual 64, 3) := by decide +kernel
theorem d_Bc_keep_60 : decode m_Bc_keep.2.1 60 = .ok (.return_, 1) := by decide +kernel
theorem d_Bc_keepValue_0 : decode m_Bc_keepValue.2.1 0 = .ok (.aload_n 0, 1) := by decide +kernel
theorem d_Bc_keepValue_1 : decode m_Bc_keepValue.2.1 1 = .ok (.getfield 68, 3) := by decide +kernel
theorem d_Bc_keepValue_4 : decode m_Bc_keepValue.2.1 4 = .ok (.ifCond .ne 53, 3) := by decide +kernel
theorem d_Bc_keepValue_7 : decode m_Bc_keepValue.2.1 7 = .ok (.aload_n 1, 1) := by decide +kernel
theorem d_Bc_keepValue_8 : decode m_Bc_keepValue.2.1 8 = .ok (.getfield 54, 3) := by decide +kernel
theorem d_Bc_keepValue_11 : decode m_Bc_keepValue.2.1 11 = .ok (.aload_n 0, 1) := by decide +kernel
theorem d_Bc_keepValue_12 : decode m_Bc_keepValue.2.1 12 = .ok (.getfield 39, 3) := by decide +kernel
theorem d_Bc_keepValue_15 : decode m_Bc_keepValue.2.1 15 = .ok (.if_icmp .ne 42, 3) := by decide +kernel
theorem d_Bc_keepValue_18 : decode m_Bc_keepValue.2.1 18 = .ok (.aload_n 0, 1) := by decide +kernel
theorem d_Bc_keepValue_19 : decode m_Bc_keepValue.2.1 19 = .ok (.getfield 33, 3) := by decide +kernel
theorem d_Bc_keepValue_22 : decode m_Bc_keepValue.2.1 22 = .ok (.aload_n 1, 1) := by decide +kernel
theorem d_Bc_keepValue_23 : decode m_Bc_keepValue.2.1 23 = .ok (.getfield 61, 3) := by decide +kernel
theorem d_Bc_keepValue_26 : decode m_Bc_keepValue.2.1 26 = .ok (.aload_n 1, 1) := by decide +kernel
theorem d_Bc_keepValue_27 : decode m_Bc_keepValue.2.1 27 = .ok (.getfield 72, 3) := by decide +kernel
theorem d_Bc_keepValue_30 : decode m_Bc_keepValue.2.1 30 = .ok (.invokestatic 75, 3) := by decide +kernel
theorem d_Bc_keepValue_33 : decode m_Bc_keepValue.2.1 33 = .ok (.ifCond .eq 24, 3) := by decide +kernel
theorem d_Bc_keepValue_36 : decode m_Bc_keepValue.2.1 36 = .ok (.aload_n 0, 1) := by decide +kernel
theorem d_Bc_keepValue_37 : decode m_Bc_keepValue.2.1 37 = .ok (.iconst 1, 1) := by decide +kernel
theorem d_Bc_keepValue_38 : decode m_Bc_keepValue.2.1 38 = .ok (.putfield 68, 3) := by decide +kernel
theorem d_Bc_keepValue_41 : decode m_Bc_keepValue.2.1 41 = .ok (.aload_n 0, 1) := by decide +kernel
theorem d_Bc_keepValue_42 : decode m_Bc_keepValue.2.1 42 = .ok (.aload_n 1, 1) := by decide +kernel
theorem d_Bc_keepValue_43 : decode m_Bc_keepValue.2.1 43 = .ok (.getfield 61, 3) := by decide +kernel
theorem d_Bc_keepValue_46 : decode m_Bc_keepValue.2.1 46 = .ok (.putfield 81, 3) := by decide +kernel
theorem d_Bc_keepValue_49 : decode m_Bc_keepValue.2.1 49 = .ok (.aload_n 0, 1) := by decide +kernel
theorem d_Bc_keepValue_50 : decode m_Bc_keepValue.2.1 50 = .ok (.aload_n 1, 1) := by decide +kernel
theorem d_Bc_keepValue_51 : decode m_Bc_keepValue.2.1 51 = .ok (.getfield 72, 3) := by decide +kernel
theorem d_Bc_keepValue_54 : decode m_Bc_keepValue.2.1 54 = .ok (.putfield 84, 3) := by decide +kernel
theorem d_Bc_keepValue_57 : decode m_Bc_keepValue.2.1 57 = .ok (.return_, 1) := by decide +kernel
theorem d_Co_isRight_0 : decode m_Co_isRight.2.1 0 = .ok (.iload_n 0, 1) := by decide +kernel
theorem d_Co_isRight_1 : decode m_Co_isRight.2.1 1 = .ok (.iload_n 2, 1) := by decide +kernel
theorem d_Co_isRight_2 : decode m_Co_isRight.2.1 2 = .ok (.sipush 255, 3) := by decide +kernel
theorem d_Co_isRight_5 : decode m_Co_isRight.2.1 5 = .ok (.iand, 1) := by decide +kernel
theorem d_Co_isRight_6 : decode m_Co_isRight.2.1 6 = .ok (.invokestatic 17, 3) := by decide +kernel
theorem d_Co_isRight_9 : decode m_Co_isRight.2.1 9 = .ok (.istore_n 3, 1) := by decide +kernel
theorem d_Co_isRight_10 : decode m_Co_isRight.2.1 10 = .ok (.iload_n 2, 1) := by decide +kernel
theorem d_Co_isRight_11 : decode m_Co_isRight.2.1 11 = .ok (.bipush 8, 2) := by decide +kernel
theorem d_Co_isRight_13 : decode m_Co_isRight.2.1 13 = .ok (.iushr, 1) := by decide +kernel
theorem d_Co_isRight_14 : decode m_Co_isRight.2.1 14 = .ok (.sipush 255, 3) := by decide +kernel
theorem d_Co_isRight_17 : decode m_Co_isRight.2.1 17 = .ok (.iand, 1) := by decide +kernel
theorem d_Co_isRight_18 : decode m_Co_isRight.2.1 18 = .ok (.istore 4, 2) := by decide +kernel
theorem d_Co_isRight_20 : decode m_Co_isRight.2.1 20 = .ok (.iload_n 2, 1) := by decide +kernel
theorem d_Co_isRight_21 : decode m_Co_isRight.2.1 21 = .ok (.bipush 16, 2) := by decide +kernel
theorem d_Co_isRight_23 : decode m_Co_isRight.2.1 23 = .ok (.iushr, 1) := by decide +kernel
theorem d_Co_isRight_24 : decode m_Co_isRight.2.1 24 = .ok (.istore 5, 2) := by decide +kernel
theorem d_Co_isRight_26 : decode m_Co_isRight.2.1 26 = .ok (.iload_n 0, 1) := by decide +kernel
theorem d_Co_isRight_27 : decode m_Co_isRight.2.1 27 = .ok (.iconst 1, 1) := by decide +kernel
theorem d_Co_isRight_28 : decode m_Co_isRight.2.1 28 = .ok (.iand, 1) := by decide +kernel
theorem d_Co_isRight_29 : decode m_Co_isRight.2.1 29 = .ok (.ifCond .ne 12, 3) := by decide +kernel
theorem d_Co_isRight_32 : decode m_Co_isRight.2.1 32 = .ok (.iload_n 3, 1) := by decide +kernel
theorem d_Co_isRight_33 : decode m_Co_isRight.2.1 33 = .ok (.iload 4, 2) := by decide +kernel
theorem d_Co_isRight_35 : decode m_Co_isRight.2.1 35 = .ok (.invokestatic 20, 3) := by decide +kernel
theorem d_Co_isRight_38 : decode m_Co_isRight.2.1 38 = .ok (.goto 9, 3) := by decide +kernel
theorem d_Co_isRight_41 : decode m_Co_isRight.2.1 41 = .ok (.iload 4, 2) := by decide +kernel
theorem d_Co_isRight_43 : decode m_Co_isRight.2.1 43 = .ok (.iload_n 3, 1) := by decide +kernel
theorem d_Co_isRight_44 : decode m_Co_isRight.2.1 44 = .ok (.invokestatic 20, 3) := by decide +kernel
theorem d_Co_isRight_47 : decode m_Co_isRight.2.1 47 = .ok (.istore 6, 2) := by decide +kernel
theorem d_Co_isRight_49 : decode m_Co_isRight.2.1 49 = .ok (.iload_n 1, 1) := by decide +kernel
theorem d_Co_isRight_50 : decode m_Co_isRight.2.1 50 = .ok (.iload_n 0, 1) := by decide +kernel
theorem d_Co_isRight_51 : decode m_Co_isRight.2.1 51 = .ok (.iconst 2, 1) := by decide +kernel
theorem d_Co_isRight_52 : decode m_Co_isRight.2.1 52 = .ok (.if_icmp .ge 13, 3) := by decide +kernel
theorem d_Co_isRight_55 : decode m_Co_isRight.2.1 55 = .ok (.iload 6, 2) := by decide +kernel
theorem d_Co_isRight_57 : decode m_Co_isRight.2.1 57 = .ok (.iload 5, 2) := by decide +kernel
theorem d_Co_isRight_59 : decode m_Co_isRight.2.1 59 = .ok (.invokestatic 23, 3) := by decide +kernel
theorem d_Co_isRight_62 : decode m_Co_isRight.2.1 62 = .ok (.goto 10, 3) := by decide +kernel
theorem d_Co_isRight_65 : decode m_Co_isRight.2.1 65 = .ok (.iload 5, 2) := by decide +kernel
theorem d_Co_isRight_67 : decode m_Co_isRight.2.1 67 = .ok (.iload 6, 2) := by decide +kernel
theorem d_Co_isRight_69 : decode m_Co_isRight.2.1 69 = .ok (.invokestatic 23, 3) := by decide +kernel
theorem d_Co_isRight_72 : decode m_Co_isRight.2.1 72 = .ok (.if_icmp .ne 7, 3) := by decide +kernel
theorem d_Co_isRight_75 : decode m_Co_isRight.2.1 75 = .ok (.iconst 1, 1) := by decide +kernel
theorem d_Co_isRight_76 : decode m_Co_isRight.2.1 76 = .ok (.goto 4, 3) := by decide +kernel
theorem d_Co_isRight_79 : decode m_Co_isRight.2.1 79 = .ok (.iconst 0, 1) := by decide +kernel
theorem d_Co_isRight_80 : decode m_Co_isRight.2.1 80 = .ok (.ireturn, 1) := by decide +kernel
theorem d_Bc_keepEcho_0 : decode m_Bc_keepEcho.2.1 0 = .ok (.aload_n 1, 1) := by decide +kernel
theorem d_Bc_keepEcho_1 : decode m_Bc_keepEcho.2.1 1 = .ok (.getfield 54, 3) := by decide +kernel
theorem d_Bc_keepEcho_4 : decode m_Bc_keepEcho.2.1 4 = .ok (.istore_n 2, 1) := by decide +kernel
theorem d_Bc_keepEcho_5 : decode m_Bc_keepEcho.2.1 5 = .ok (.aload_n 0, 1) := by decide +kernel
theorem d_Bc_keepEcho_6 : decode m_Bc_keepEcho.2.1 6 = .ok (.getfield 12, 3) := by decide +kernel
theorem d_Bc_keepEcho_9 : decode m_Bc_keepEcho.2.1 9 = .ok (.iload_n 2, 1) := by decide +kernel
theorem d_Bc_keepEcho_10 : decode m_Bc_keepEcho.2.1 10 = .ok (.invokevirtual 57, 3) := by decide +kernel
theorem d_Bc_keepEcho_13 : decode m_Bc_keepEcho.2.1 13 = .ok (.ifCond .ne 44, 3) := by decide +kernel
theorem d_Bc_keepEcho_16 : decode m_Bc_keepEcho.2.1 16 = .ok (.iload_n 2, 1) := by decide +kernel
theorem d_Bc_keepEcho_17 : decode m_Bc_keepEcho.2.1 17 = .ok (.aload_n 1, 1) := by decide +kernel
theorem d_Bc_keepEcho_18 : decode m_Bc_keepEcho.2.1 18 = .ok (.getfield 61, 3) := by decide +kernel
theorem d_Bc_keepEcho_21 : decode m_Bc_keepEcho.2.1 21 = .ok (.aload_n 1, 1) := by decide +kernel
theorem d_Bc_keepEcho_22 : decode m_Bc_keepEcho.2.1 22 = .ok (.getfield 72, 3) := by decide +kernel
theorem d_Bc_keepEcho_25 : decode m_Bc_keepEcho.2.1 25 = .ok (.invokestatic 75, 3) := by decide +kernel
theorem d_Bc_keepEcho_28 : decode m_Bc_keepEcho.2.1 28 = .ok (.ifCond .eq 29, 3) := by decide +kernel
theorem d_Bc_keepEcho_31 : decode m_Bc_keepEcho.2.1 31 = .ok (.aload_n 0, 1) := by decide +kernel
theorem d_Bc_keepEcho_32 : decode m_Bc_keepEcho.2.1 32 = .ok (.getfield 12, 3) := by decide +kernel
theorem d_Bc_keepEcho_35 : decode m_Bc_keepEcho.2.1 35 = .ok (.iload_n 2, 1) := by decide +kernel
theorem d_Bc_keepEcho_36 : decode m_Bc_keepEcho.2.1 36 = .ok (.aload_n 1, 1) := by decide +kernel
theorem d_Bc_keepEcho_37 : decode m_Bc_keepEcho.2.1 37 = .ok (.getfield 61, 3) := by decide +kernel
theorem d_Bc_keepEcho_40 : decode m_Bc_keepEcho.2.1 40 = .ok (.invokevirtual 64, 3) := by decide +kernel
theorem d_Bc_keepEcho_43 : decode m_Bc_keepEcho.2.1 43 = .ok (.aload_n 0, 1) := by decide +kernel
theorem d_Bc_keepEcho_44 : decode m_Bc_keepEcho.2.1 44 = .ok (.getfield 18, 3) := by decide +kernel
theorem d_Bc_keepEcho_47 : decode m_Bc_keepEcho.2.1 47 = .ok (.iload_n 2, 1) := by decide +kernel
theorem d_Bc_keepEcho_48 : decode m_Bc_keepEcho.2.1 48 = .ok (.aload_n 1, 1) := by decide +kernel
theorem d_Bc_keepEcho_49 : decode m_Bc_keepEcho.2.1 49 = .ok (.getfield 72, 3) := by decide +kernel
theorem d_Bc_keepEcho_52 : decode m_Bc_keepEcho.2.1 52 = .ok (.sipush 255, 3) := by decide +kernel
theorem d_Bc_keepEcho_55 : decode m_Bc_keepEcho.2.1 55 = .ok (.iand, 1) := by decide +kernel
theorem d_Bc_keepEcho_56 : decode m_Bc_keepEcho.2.1 56 = .ok (.iastore, 1) := by decide +kernel
theorem d_Bc_keepEcho_57 : decode m_Bc_keepEcho.2.1 57 = .ok (.return_, 1) := by decide +kernel
theorem d_Rt_put_0 : decode m_Rt_put.2.1 0 = .ok (.aload_n 0, 1) := by decide +kernel
theorem d_Rt_put_1 : decode m_Rt_put.2.1 1 = .ok (.getfield 9, 3) := by decide +kernel
theorem d_Rt_put_4 : decode m_Rt_put.2.1 4 = .ok (.iload_n 1, 1) := by decide +kernel
theorem d_Rt_put_5 : decode m_Rt_put.2.1 5 = .ok (.iload_n 2, 1) := by decide +kernel
theorem d_Rt_put_6 : decode m_Rt_put.2.1 6 = .ok (.iastore, 1) := by decide +kernel
theorem d_Rt_put_7 : decode m_Rt_put.2.1 7 = .ok (.aload_n 0, 1) := by decide +kernel
theorem d_Rt_put_8 : decode m_Rt_put.2.1 8 = .ok (.dup, 1) := by decide +kernel
theorem d_Rt_put_9 : decode m_Rt_put.2.1 9 = .ok (.getfield 15, 3) := by decide +kernel
theorem d_Rt_put_12 : decode m_Rt_put.2.1 12 = .ok (.iconst 1, 1) := by decide +kernel
theorem d_Rt_put_13 : decode m_Rt_put.2.1 13 = .ok (.iload_n 1, 1) := by decide +kernel
theorem d_Rt_put_14 : decode m_Rt_put.2.1 14 = .ok (.ishl, 1) := by decide +kernel
theorem d_Rt_put_15 : decode m_Rt_put.2.1 15 = .ok (.ior, 1) := by decide +kernel
theorem d_Rt_put_16 : decode m_Rt_put.2.1 16 = .ok (.putfield 15, 3) := by decide +kernel
theorem d_Rt_put_19 : decode m_Rt_put.2.1 19 = .ok (.return_, 1) := by decide +kernel
theorem d_El_deliver_0 : decode m_El_deliver.2.1 0 = .ok (.iload_n 1, 1) := by decide +kernel
theorem d_El_deliver_1 : decode m_El_deliver.2.1 1 = .ok (.invokestatic 30, 3) := by decide +kernel
theorem d_El_deliver_4 : decode m_El_deliver.2.1 4 = .ok (.ifCond .eq 21, 3) := by decide +kernel
theorem d_El_deliver_7 : decode m_El_deliver.2.1 7 = .ok (.iload_n 2, 1) := by decide +kernel
theorem d_El_deliver_8 : decode m_El_deliver.2.1 8 = .ok (.iconst 0, 1) := by decide +kernel
theorem d_El_deliver_9 : decode m_El_deliver.2.1 9 = .ok (.aload_n 0, 1) := by decide +kernel
theorem d_El_deliver_10 : decode m_El_deliver.2.1 10 = .ok (.getfield 17, 3) := by decide +kernel
theorem d_El_deliver_13 : decode m_El_deliver.2.1 13 = .ok (.iload_n 1, 1) := by decide +kernel
theorem d_El_deliver_14 : decode m_El_deliver.2.1 14 = .ok (.invokevirtual 45, 3) := by decide +kernel
theorem d_El_deliver_17 : decode m_El_deliver.2.1 17 = .ok (.iconst 1, 1) := by decide +kernel
theorem d_El_deliver_18 : decode m_El_deliver.2.1 18 = .ok (.isub, 1) := by decide +kernel
theorem d_El_deliver_19 : decode m_El_deliver.2.1 19 = .ok (.invokestatic 34, 3) := by decide +kernel
theorem d_El_deliver_22 : decode m_El_deliver.2.1 22 = .ok (.ifCond .ne 5, 3) := by decide +kernel
theorem d_El_deliver_25 : decode m_El_deliver.2.1 25 = .ok (.iconst (-1), 1) := by decide +kernel
theorem d_El_deliver_26 : decode m_El_deliver.2.1 26 = .ok (.ireturn, 1) := by decide +kernel
theorem d_El_deliver_27 : decode m_El_deliver.2.1 27 = .ok (.aload_n 0, 1) := by decide +kernel
theorem d_El_deliver_28 : decode m_El_deliver.2.1 28 = .ok (.getfield 17, 3) := by decide +kernel
theorem d_El_deliver_31 : decode m_El_deliver.2.1 31 = .ok (.iload_n 1, 1) := by decide +kernel
theorem d_El_deliver_32 : decode m_El_deliver.2.1 32 = .ok (.iload_n 2, 1) := by decide +kernel
theorem d_El_deliver_33 : decode m_El_deliver.2.1 33 = .ok (.invokevirtual 49, 3) := by decide +kernel
theorem d_El_deliver_36 : decode m_El_deliver.2.1 36 = .ok (.astore_n 3, 1) := by decide +kernel
theorem d_El_deliver_37 : decode m_El_deliver.2.1 37 = .ok (.aload_n 0, 1) := by decide +kernel
theorem d_El_deliver_38 : decode m_El_deliver.2.1 38 = .ok (.getfield 23, 3) := by decide +kernel
theorem d_El_deliver_41 : decode m_El_deliver.2.1 41 = .ok (.iload_n 1, 1) := by decide +kernel
theorem d_El_deliver_42 : decode m_El_deliver.2.1 42 = .ok (.aaload, 1) := by decide +kernel
theorem d_El_deliver_43 : decode m_El_deliver.2.1 43 = .ok (.aload_n 3, 1) := by decide +kernel
theorem d_El_deliver_44 : decode m_El_deliver.2.1 44 = .ok (.invokevirtual 53, 3) := by decide +kernel
theorem d_El_deliver_47 : decode m_El_deliver.2.1 47 = .ok (.aload_n 3, 1) := by decide +kernel
theorem d_El_deliver_48 : decode m_El_deliver.2.1 48 = .ok (.getfield 57, 3) := by decide +kernel
theorem d_El_deliver_51 : decode m_El_deliver.2.1 51 = .ok (.ireturn, 1) := by decide +kernel
theorem d_El_betray_0 : decode m_El_betray.2.1 0 = .ok (.aload_n 0, 1) := by decide +kernel
theorem d_El_betray_1 : decode m_El_betray.2.1 1 = .ok (.getfield 23, 3) := by decide +kernel
theorem d_El_betray_4 : decode m_El_betray.2.1 4 = .ok (.iconst 3, 1) := by decide +kernel
theorem d_El_betray_5 : decode m_El_betray.2.1 5 = .ok (.aaload, 1) := by decide +kernel
theorem d_El_betray_6 : decode m_El_betray.2.1 6 = .ok (.getfield 62, 3) := by decide +kernel
theorem d_El_betray_9 : decode m_El_betray.2.1 9 = .ok (.ifCond .eq 5, 3) := by decide +kernel
theorem d_El_betray_12 : decode m_El_betray.2.1 12 = .ok (.iconst 0, 1) := by decide +kernel
theorem d_El_betray_13 : decode m_El_betray.2.1 13 = .ok (.ireturn, 1) := by decide +kernel
theorem d_El_betray_14 : decode m_El_betray.2.1 14 = .ok (.aload_n 0, 1) := by decide +kernel
theorem d_El_betray_15 : decode m_El_betray.2.1 15 = .ok (.getfield 23, 3) := by decide +kernel
theorem d_El_betray_18 : decode m_El_betray.2.1 18 = .ok (.iconst 3, 1) := by decide +kernel
theorem d_El_betray_19 : decode m_El_betray.2.1 19 = .ok (.aaload, 1) := by decide +kernel
theorem d_El_betray_20 : decode m_El_betray.2.1 20 = .ok (.iconst 1, 1) := by decide +kernel
theorem d_El_betray_21 : decode m_El_betray.2.1 21 = .ok (.putfield 62, 3) := by decide +kernel
theorem d_El_betray_24 : decode m_El_betray.2.1 24 = .ok (.iconst 1, 1) := by decide +kernel
theorem d_El_betray_25 : decode m_El_betray.2.1 25 = .ok (.ireturn, 1) := by decide +kernel
theorem d_El_speak_0 : decode m_El_speak.2.1 0 = .ok (.aload_n 0, 1) := by decide +kernel
theorem d_El_speak_1 : decode m_El_speak.2.1 1 = .ok (.getfield 23, 3) := by decide +kernel
theorem d_El_speak_4 : decode m_El_speak.2.1 4 = .ok (.iconst 3, 1) := by decide +kernel
theorem d_El_speak_5 : decode m_El_speak.2.1 5 = .ok (.aaload, 1) := by decide +kernel
theorem d_El_speak_6 : decode m_El_speak.2.1 6 = .ok (.getfield 62, 3) := by decide +kernel
theorem d_El_speak_9 : decode m_El_speak.2.1 9 = .ok (.ifCond .eq 13, 3) := by decide +kernel
theorem d_El_speak_12 : decode m_El_speak.2.1 12 = .ok (.aload_n 0, 1) := by decide +kernel
theorem d_El_speak_13 : decode m_El_speak.2.1 13 = .ok (.getfield 66, 3) := by decide +kernel
theorem d_El_speak_16 : decode m_El_speak.2.1 16 = .ok (.sipush 300, 3) := by decide +kernel
theorem d_El_speak_19 : decode m_El_speak.2.1 19 = .ok (.if_icmp .lt 5, 3) := by decide +kernel
theorem d_El_speak_22 : decode m_El_speak.2.1 22 = .ok (.iconst 0, 1) := by decide +kernel
theorem d_El_speak_23 : decode m_El_speak.2.1 23 = .ok (.ireturn, 1) := by decide +kernel
theorem d_El_speak_24 : decode m_El_speak.2.1 24 = .ok (.iload_n 1, 1) := by decide +kernel
theorem d_El_speak_25 : decode m_El_speak.2.1 25 = .ok (.invokestatic 30, 3) := by decide +kernel
theorem d_El_speak_28 : decode m_El_speak.2.1 28 = .ok (.ifCond .eq 27, 3) := by decide +kernel
theorem d_El_speak_31 : decode m_El_speak.2.1 31 = .ok (.iload_n 2, 1) := by decide +kernel
theorem d_El_speak_32 : decode m_El_speak.2.1 32 = .ok (.invokestatic 69, 3) := by decide +kernel
theorem d_El_speak_35 : decode m_El_speak.2.1 35 = .ok (.ifCond .eq 20, 3) := by decide +kernel
theorem d_El_speak_38 : decode m_El_speak.2.1 38 = .ok (.iload_n 3, 1) := by decide +kernel
theorem d_El_speak_39 : decode m_El_speak.2.1 39 = .ok (.invokestatic 30, 3) := by decide +kernel
theorem d_El_speak_42 : decode m_El_speak.2.1 42 = .ok (.ifCond .eq 13, 3) := by decide +kernel
theorem d_El_speak_45 : decode m_El_speak.2.1 45 = .ok (.iload 4, 2) := by decide +kernel
theorem d_El_speak_47 : decode m_El_speak.2.1 47 = .ok (.iconst 0, 1) := by decide +kernel
theorem d_El_speak_48 : decode m_El_speak.2.1 48 = .ok (.iconst 4, 1) := by decide +kernel
theorem d_El_speak_49 : decode m_El_speak.2.1 49 = .ok (.invokestatic 34, 3) := by decide +kernel
theorem d_El_speak_52 : decode m_El_speak.2.1 52 = .ok (.ifCond .ne 5, 3) := by decide +kernel
theorem d_El_speak_55 : decode m_El_speak.2.1 55 = .ok (.iconst 0, 1) := by decide +kernel
theorem d_El_speak_56 : decode m_El_speak.2.1 56 = .ok (.ireturn, 1) := by decide +kernel
theorem d_El_speak_57 : decode m_El_speak.2.1 57 = .ok (.iload 4, 2) := by decide +kernel
theorem d_El_speak_59 : decode m_El_speak.2.1 59 = .ok (.iconst 3, 1) := by decide +kernel
theorem d_El_speak_60 : decode m_El_speak.2.1 60 = .ok (.if_icmp .lt 23, 3) := by decide +kernel
theorem d_El_speak_63 : decode m_El_speak.2.1 63 = .ok (.iload 5, 2) := by decide +kernel
theorem d_El_speak_65 : decode m_El_speak.2.1 65 = .ok (.invokestatic 72, 3) := by decide +kernel
theorem d_El_speak_68 : decode m_El_speak.2.1 68 = .ok (.ifCond .eq 13, 3) := by decide +kernel
theorem d_El_speak_71 : decode m_El_speak.2.1 71 = .ok (.iload 6, 2) := by decide +kernel
theorem d_El_speak_73 : decode m_El_speak.2.1 73 = .ok (.iconst 0, 1) := by decide +kernel
theorem d_El_speak_74 : decode m_El_speak.2.1 74 = .ok (.iconst 1, 1) := by decide +kernel
theorem d_El_speak_75 : decode m_El_speak.2.1 75 = .ok (.invokestatic 34, 3) := by decide +kernel
theorem d_El_speak_78 : decode m_El_speak.2.1 78 = .ok (.ifCond .ne 5, 3) := by decide +kernel
theorem d_El_speak_81 : decode m_El_speak.2.1 81 = .ok (.iconst 0, 1) := by decide +kernel
theorem d_El_speak_82 : decode m_El_speak.2.1 82 = .ok (.ireturn, 1) := by decide +kernel
theorem d_El_speak_83 : decode m_El_speak.2.1 83 = .ok (.aload_n 0, 1) := by decide +kernel
theorem d_El_speak_84 : decode m_El_speak.2.1 84 = .ok (.dup, 1) := by decide +kernel
theorem d_El_speak_85 : decode m_El_speak.2.1 85 = .ok (.getfield 66, 3) := by decide +kernel
theorem d_El_speak_88 : decode m_El_speak.2.1 88 = .ok (.iconst 1, 1) := by decide +kernel
theorem d_El_speak_89 : decode m_El_speak.2.1 89 = .ok (.iadd, 1) := by decide +kernel
theorem d_El_speak_90 : decode m_El_speak.2.1 90 = .ok (.putfield 66, 3) := by decide +kernel
theorem d_El_speak_93 : decode m_El_speak.2.1 93 = .ok (.aload_n 0, 1) := by decide +kernel
theorem d_El_speak_94 : decode m_El_speak.2.1 94 = .ok (.getfield 17, 3) := by decide +kernel
theorem d_El_speak_97 : decode m_El_speak.2.1 97 = .ok (.iload_n 1, 1) := by decide +kernel
theorem d_El_speak_98 : decode m_El_speak.2.1 98 = .ok (.new 58, 3) := by decide +kernel
theorem d_El_speak_101 : decode m_El_speak.2.1 101 = .ok (.dup, 1) := by decide +kernel
theorem d_El_speak_102 : decode m_El_speak.2.1 102 = .ok (.iconst 3, 1) := by decide +kernel
theorem d_El_speak_103 : decode m_El_speak.2.1 103 = .ok (.iload_n 2, 1) := by decide +kernel
theorem d_El_speak_104 : decode m_El_speak.2.1 104 = .ok (.iload_n 3, 1) := by decide +kernel
theorem d_El_speak_105 : decode m_El_speak.2.1 105 = .ok (.iload 4, 2) := by decide +kernel
theorem d_El_speak_107 : decode m_El_speak.2.1 107 = .ok (.iload 5, 2) := by decide +kernel
theorem d_El_speak_109 : decode m_El_speak.2.1 109 = .ok (.iload 6, 2) := by decide +kernel
theorem d_El_speak_111 : decode m_El_speak.2.1 111 = .ok (.invokespecial 75, 3) := by decide +kernel
theorem d_El_speak_114 : decode m_El_speak.2.1 114 = .ok (.invokevirtual 78, 3) := by decide +kernel
theorem d_El_speak_117 : decode m_El_speak.2.1 117 = .ok (.iconst 1, 1) := by decide +kernel
theorem d_El_speak_118 : decode m_El_speak.2.1 118 = .ok (.ireturn, 1) := by decide +kernel
theorem d_El_isEpoch_0 : decode m_El_isEpoch.2.1 0 = .ok (.iload_n 0, 1) := by decide +kernel
theorem d_El_isEpoch_1 : decode m_El_isEpoch.2.1 1 = .ok (.iconst 0, 1) := by decide +kernel
theorem d_El_isEpoch_2 : decode m_El_isEpoch.2.1 2 = .ok (.iconst 3, 1) := by decide +kernel
theorem d_El_isEpoch_3 : decode m_El_isEpoch.2.1 3 = .ok (.invokestatic 34, 3) := by decide +kernel
theorem d_El_isEpoch_6 : decode m_El_isEpoch.2.1 6 = .ok (.ireturn, 1) := by decide +kernel
theorem d_El_isRound_0 : decode m_El_isRound.2.1 0 = .ok (.iload_n 0, 1) := by decide +kernel
theorem d_El_isRound_1 : decode m_El_isRound.2.1 1 = .ok (.iconst 0, 1) := by decide +kernel
theorem d_El_isRound_2 : decode m_El_isRound.2.1 2 = .ok (.iconst 5, 1) := by decide +kernel
theorem d_El_isRound_3 : decode m_El_isRound.2.1 3 = .ok (.invokestatic 34, 3) := by decide +kernel
theorem d_El_isRound_6 : decode m_El_isRound.2.1 6 = .ok (.ireturn, 1) := by decide +kernel
theorem d_El_epoch_0 : decode m_El_epoch.2.1 0 = .ok (.iload_n 1, 1) := by decide +kernel
theorem d_El_epoch_1 : decode m_El_epoch.2.1 1 = .ok (.invokestatic 30, 3) := by decide +kernel
theorem d_El_epoch_4 : decode m_El_epoch.2.1 4 = .ok (.ifCond .eq 15, 3) := by decide +kernel
theorem d_El_epoch_7 : decode m_El_epoch.2.1 7 = .ok (.aload_n 0, 1) := by decide +kernel
theorem d_El_epoch_8 : decode m_El_epoch.2.1 8 = .ok (.getfield 23, 3) := by decide +kernel
theorem d_El_epoch_11 : decode m_El_epoch.2.1 11 = .ok (.iload_n 1, 1) := by decide +kernel
theorem d_El_epoch_12 : decode m_El_epoch.2.1 12 = .ok (.aaload, 1) := by decide +kernel
theorem d_El_epoch_13 : decode m_El_epoch.2.1 13 = .ok (.getfield 82, 3) := by decide +kernel
theorem d_El_epoch_16 : decode m_El_epoch.2.1 16 = .ok (.goto 4, 3) := by decide +kernel
theorem d_El_epoch_19 : decode m_El_epoch.2.1 19 = .ok (.iconst (-1), 1) := by decide +kernel
theorem d_El_epoch_20 : decode m_El_epoch.2.1 20 = .ok (.ireturn, 1) := by decide +kernel
theorem d_El_ledger_0 : decode m_El_ledger.2.1 0 = .ok (.iload_n 1, 1) := by decide +kernel
theorem d_El_ledger_1 : decode m_El_ledger.2.1 1 = .ok (.invokestatic 30, 3) := by decide +kernel
theorem d_El_ledger_4 : decode m_El_ledger.2.1 4 = .ok (.ifCond .eq 19, 3) := by decide +kernel
theorem d_El_ledger_7 : decode m_El_ledger.2.1 7 = .ok (.aload_n 0, 1) := by decide +kernel
theorem d_El_ledger_8 : decode m_El_ledger.2.1 8 = .ok (.getfield 23, 3) := by decide +kernel
theorem d_El_ledger_11 : decode m_El_ledger.2.1 11 = .ok (.iload_n 1, 1) := by decide +kernel
theorem d_El_ledger_12 : decode m_El_ledger.2.1 12 = .ok (.aaload, 1) := by decide +kernel
theorem d_El_ledger_13 : decode m_El_ledger.2.1 13 = .ok (.getfield 85, 3) := by decide +kernel
theorem d_El_ledger_16 : decode m_El_ledger.2.1 16 = .ok (.iload_n 2, 1) := by decide +kernel
theorem d_El_ledger_17 : decode m_El_ledger.2.1 17 = .ok (.invokevirtual 89, 3) := by decide +kernel
theorem d_El_ledger_20 : decode m_El_ledger.2.1 20 = .ok (.goto 4, 3) := by decide +kernel
theorem d_El_ledger_23 : decode m_El_ledger.2.1 23 = .ok (.iconst (-1), 1) := by decide +kernel
theorem d_El_ledger_24 : decode m_El_ledger.2.1 24 = .ok (.ireturn, 1) := by decide +kernel
theorem d_Rw_answer_0 : decode m_Rw_answer.2.1 0 = .ok (.iload_n 1, 1) := by decide +kernel
theorem d_Rw_answer_1 : decode m_Rw_answer.2.1 1 = .ok (.iconst (-1), 1) := by decide +kernel
theorem d_Rw_answer_2 : decode m_Rw_answer.2.1 2 = .ok (.if_icmp .ne 10, 3) := by decide +kernel
theorem d_Rw_answer_5 : decode m_Rw_answer.2.1 5 = .ok (.aload_n 0, 1) := by decide +kernel
theorem d_Rw_answer_6 : decode m_Rw_answer.2.1 6 = .ok (.getfield 15, 3) := by decide +kernel
theorem d_Rw_answer_9 : decode m_Rw_answer.2.1 9 = .ok (.goto 9, 3) := by decide +kernel
theorem d_Rw_answer_12 : decode m_Rw_answer.2.1 12 = .ok (.aload_n 0, 1) := by decide +kernel
theorem d_Rw_answer_13 : decode m_Rw_answer.2.1 13 = .ok (.iload_n 1, 1) := by decide +kernel
theorem d_Rw_answer_14 : decode m_Rw_answer.2.1 14 = .ok (.iconst (-1), 1) := by decide +kernel
theorem d_Rw_answer_15 : decode m_Rw_answer.2.1 15 = .ok (.invokevirtual 27, 3) := by decide +kernel
theorem d_Rw_answer_18 : decode m_Rw_answer.2.1 18 = .ok (.ireturn, 1) := by decide +kernel
theorem d_El_queue_0 : decode m_El_queue.2.1 0 = .ok (.iload_n 1, 1) := by decide +kernel
theorem d_El_queue_1 : decode m_El_queue.2.1 1 = .ok (.invokestatic 30, 3) := by decide +kernel
theorem d_El_queue_4 : decode m_El_queue.2.1 4 = .ok (.ifCond .eq 19, 3) := by decide +kernel
theorem d_El_queue_7 : decode m_El_queue.2.1 7 = .ok (.aload_n 0, 1) := by decide +kernel
theorem d_El_queue_8 : decode m_El_queue.2.1 8 = .ok (.getfield 23, 3) := by decide +kernel
theorem d_El_queue_11 : decode m_El_queue.2.1 11 = .ok (.iload_n 1, 1) := by decide +kernel
theorem d_El_queue_12 : decode m_El_queue.2.1 12 = .ok (.aaload, 1) := by decide +kernel
theorem d_El_queue_13 : decode m_El_queue.2.1 13 = .ok (.getfield 94, 3) := by decide +kernel
theorem d_El_queue_16 : decode m_El_queue.2.1 16 = .ok (.iload_n 2, 1) := by decide +kernel
theorem d_El_queue_17 : decode m_El_queue.2.1 17 = .ok (.invokevirtual 89, 3) := by decide +kernel
theorem d_El_queue_20 : decode m_El_queue.2.1 20 = .ok (.goto 4, 3) := by decide +kernel
theorem d_El_queue_23 : decode m_El_queue.2.1 23 = .ok (.iconst (-1), 1) := by decide +kernel
theorem d_El_queue_24 : decode m_El_queue.2.1 24 = .ok (.ireturn, 1) := by decide +kernel
theorem d_El_waiting_0 : decode m_El_waiting.2.1 0 = .ok (.iload_n 1, 1) := by decide +kernel
theorem d_El_waiting_1 : decode m_El_waiting.2.1 1 = .ok (.invokestatic 30, 3) := by decide +kernel
theorem d_El_waiting_4 : decode m_El_waiting.2.1 4 = .ok (.ifCond .eq 14, 3) := by decide +kernel
theorem d_El_waiting_7 : decode m_El_waiting.2.1 7 = .ok (.aload_n 0, 1) := by decide +kernel
theorem d_El_waiting_8 : decode m_El_waiting.2.1 8 = .ok (.getfield 17, 3) := by decide +kernel
theorem d_El_waiting_11 : decode m_El_waiting.2.1 11 = .ok (.iload_n 1, 1) := by decide +kernel
theorem d_El_waiting_12 : decode m_El_waiting.2.1 12 = .ok (.invokevirtual 45, 3) := by decide +kernel
theorem d_El_waiting_15 : decode m_El_waiting.2.1 15 = .ok (.goto 4, 3) := by decide +kernel
theorem d_El_waiting_18 : decode m_El_waiting.2.1 18 = .ok (.iconst (-1), 1) := by decide +kernel
theorem d_El_waiting_19 : decode m_El_waiting.2.1 19 = .ok (.ireturn, 1) := by decide +kernel
theorem d_El_instance_0 : decode m_El_instance.2.1 0 = .ok (.iload_n 1, 1) := by decide +kernel
theorem d_El_instance_1 : decode m_El_instance.2.1 1 = .ok (.invokestatic 30, 3) := by decide +kernel
theorem d_El_instance_4 : decode m_El_instance.2.1 4 = .ok (.ifCond .eq 25, 3) := by decide +kernel
theorem d_El_instance_7 : decode m_El_instance.2.1 7 = .ok (.iload_n 2, 1) := by decide +kernel
theorem d_El_instance_8 : decode m_El_instance.2.1 8 = .ok (.invokestatic 30, 3) := by decide +kernel
theorem d_El_instance_11 : decode m_El_instance.2.1 11 = .ok (.ifCond .eq 18, 3) := by decide +kernel
theorem d_El_instance_14 : decode m_El_instance.2.1 14 = .ok (.aload_n 0, 1) := by decide +kernel
theorem d_El_instance_15 : decode m_El_instance.2.1 15 = .ok (.getfield 23, 3) := by decide +kernel
theorem d_El_instance_18 : decode m_El_instance.2.1 18 = .ok (.iload_n 1, 1) := by decide +kernel
theorem d_El_instance_19 : decode m_El_instance.2.1 19 = .ok (.aaload, 1) := by decide +kernel
theorem d_El_instance_20 : decode m_El_instance.2.1 20 = .ok (.getfield 82, 3) := by decide +kernel
theorem d_El_instance_23 : decode m_El_instance.2.1 23 = .ok (.invokestatic 69, 3) := by decide +kernel
theorem d_El_instance_26 : decode m_El_instance.2.1 26 = .ok (.ifCond .ne 5, 3) := by decide +kernel
theorem d_El_instance_29 : decode m_El_instance.2.1 29 = .ok (.iconst (-1), 1) := by decide +kernel
theorem d_El_instance_30 : decode m_El_instance.2.1 30 = .ok (.ireturn, 1) := by decide +kernel
theorem d_El_instance_31 : decode m_El_instance.2.1 31 = .ok (.aload_n 0, 1) := by decide +kernel
theorem d_El_instance_32 : decode m_El_instance.2.1 32 = .ok (.getfield 23, 3) := by decide +kernel
theorem d_El_instance_35 : decode m_El_instance.2.1 35 = .ok (.iload_n 1, 1) := by decide +kernel
theorem d_El_instance_36 : decode m_El_instance.2.1 36 = .ok (.aaload, 1) := by decide +kernel
theorem d_El_instance_37 : decode m_El_instance.2.1 37 = .ok (.iload_n 2, 1) := by decide +kernel
theorem d_El_instance_38 : decode m_El_instance.2.1 38 = .ok (.invokevirtual 97, 3) := by decide +kernel
theorem d_El_instance_41 : decode m_El_instance.2.1 41 = .ok (.astore 4, 2) := by decide +kernel
theorem d_El_instance_43 : decode m_El_instance.2.1 43 = .ok (.aload_n 0, 1) := by decide +kernel
theorem d_El_instance_44 : decode m_El_instance.2.1 44 = .ok (.getfield 23, 3) := by decide +kernel
theorem d_El_instance_47 : decode m_El_instance.2.1 47 = .ok (.iload_n 1, 1) := by decide +kernel
theorem d_El_instance_48 : decode m_El_instance.2.1 48 = .ok (.aaload, 1) := by decide +kernel
theorem d_El_instance_49 : decode m_El_instance.2.1 49 = .ok (.iload_n 2, 1) := by decide +kernel
theorem d_El_instance_50 : decode m_El_instance.2.1 50 = .ok (.invokevirtual 101, 3) := by decide +kernel
theorem d_El_instance_53 : decode m_El_instance.2.1 53 = .ok (.astore 5, 2) := by decide +kernel
theorem d_El_instance_55 : decode m_El_instance.2.1 55 = .ok (.iload_n 3, 1) := by decide +kernel
theorem d_El_instance_56 : decode m_El_instance.2.1 56 = .ok (.tableswitch 94 0 6 #[44, 50, 56, 62, 68, 74, 88], 44) := by decide +kernel
theorem d_El_instance_100 : decode m_El_instance.2.1 100 = .ok (.aload 4, 2) := by decide +kernel
theorem d_El_instance_102 : decode m_El_instance.2.1 102 = .ok (.invokevirtual 105, 3) := by decide +kernel
theorem d_El_instance_105 : decode m_El_instance.2.1 105 = .ok (.ireturn, 1) := by decide +kernel
theorem d_El_instance_106 : decode m_El_instance.2.1 106 = .ok (.aload 4, 2) := by decide +kernel
theorem d_El_instance_108 : decode m_El_instance.2.1 108 = .ok (.getfield 111, 3) := by decide +kernel
theorem d_El_instance_111 : decode m_El_instance.2.1 111 = .ok (.ireturn, 1) := by decide +kernel
theorem d_El_instance_112 : decode m_El_instance.2.1 112 = .ok (.aload 5, 2) := by decide +kernel
theorem d_El_instance_114 : decode m_El_instance.2.1 114 = .ok (.getfield 114, 3) := by decide +kernel
theorem d_El_instance_117 : decode m_El_instance.2.1 117 = .ok (.ireturn, 1) := by decide +kernel
theorem d_El_instance_118 : decode m_El_instance.2.1 118 = .ok (.aload 5, 2) := by decide +kernel
theorem d_El_instance_120 : decode m_El_instance.2.1 120 = .ok (.getfield 119, 3) := by decide +kernel
theorem d_El_instance_123 : decode m_El_instance.2.1 123 = .ok (.ireturn, 1) := by decide +kernel
theorem d_El_instance_124 : decode m_El_instance.2.1 124 = .ok (.aload 5, 2) := by decide +kernel
theorem d_El_instance_126 : decode m_El_instance.2.1 126 = .ok (.getfield 122, 3) := by decide +kernel
theorem d_El_instance_129 : decode m_El_instance.2.1 129 = .ok (.ireturn, 1) := by decide +kernel
theorem d_El_instance_130 : decode m_El_instance.2.1 130 = .ok (.aload 5, 2) := by decide +kernel
theorem d_El_instance_132 : decode m_El_instance.2.1 132 = .ok (.getfield 125, 3) := by decide +kernel
theorem d_El_instance_135 : decode m_El_instance.2.1 135 = .ok (.ifCond .eq 7, 3) := by decide +kernel
theorem d_El_instance_138 : decode m_El_instance.2.1 138 = .ok (.iconst 1, 1) := by decide +kernel
theorem d_El_instance_139 : decode m_El_instance.2.1 139 = .ok (.goto 4, 3) := by decide +kernel
theorem d_El_instance_142 : decode m_El_instance.2.1 142 = .ok (.iconst 0, 1) := by decide +kernel
theorem d_El_instance_143 : decode m_El_instance.2.1 143 = .ok (.ireturn, 1) := by decide +kernel
theorem d_El_instance_144 : decode m_El_instance.2.1 144 = .ok (.aload 5, 2) := by decide +kernel
theorem d_El_instance_146 : decode m_El_instance.2.1 146 = .ok (.getfield 128, 3) := by decide +kernel
theorem d_El_instance_149 : decode m_El_instance.2.1 149 = .ok (.ireturn, 1) := by decide +kernel
theorem d_El_instance_150 : decode m_El_instance.2.1 150 = .ok (.iconst (-1), 1) := by decide +kernel
theorem d_El_instance_151 : decode m_El_instance.2.1 151 = .ok (.ireturn, 1) := by decide +kernel
theorem d_Bc_progress_0 : decode m_Bc_progress.2.1 0 = .ok (.aload_n 0, 1) := by decide +kernel
theorem d_Bc_progress_1 : decode m_Bc_progress.2.1 1 = .ok (.getfield 87, 3) := by decide +kernel
theorem d_Bc_progress_4 : decode m_Bc_progress.2.1 4 = .ok (.ifCond .eq 7, 3) := by decide +kernel
theorem d_Bc_progress_7 : decode m_Bc_progress.2.1 7 = .ok (.iconst 1, 1) := by decide +kernel
theorem d_Bc_progress_8 : decode m_Bc_progress.2.1 8 = .ok (.goto 4, 3) := by decide +kernel
theorem d_Bc_progress_11 : decode m_Bc_progress.2.1 11 = .ok (.iconst 0, 1) := by decide +kernel
theorem d_Bc_progress_12 : decode m_Bc_progress.2.1 12 = .ok (.aload_n 0, 1) := by decide +kernel
theorem d_Bc_progress_13 : decode m_Bc_progress.2.1 13 = .ok (.getfield 98, 3) := by decide +kernel
theorem d_Bc_progress_16 : decode m_Bc_progress.2.1 16 = .ok (.ifCond .eq 7, 3) := by decide +kernel
theorem d_Bc_progress_19 : decode m_Bc_progress.2.1 19 = .ok (.iconst 2, 1) := by decide +kernel
theorem d_Bc_progress_20 : decode m_Bc_progress.2.1 20 = .ok (.goto 4, 3) := by decide +kernel
theorem d_Bc_progress_23 : decode m_Bc_progress.2.1 23 = .ok (.iconst 0, 1) := by decide +kernel
theorem d_Bc_progress_24 : decode m_Bc_progress.2.1 24 = .ok (.iadd, 1) := by decide +kernel
theorem d_Bc_progress_25 : decode m_Bc_progress.2.1 25 = .ok (.aload_n 0, 1) := by decide +kernel
theorem d_Bc_progress_26 : decode m_Bc_progress.2.1 26 = .ok (.getfield 25, 3) := by decide +kernel
theorem d_Bc_progress_29 : decode m_Bc_progress.2.1 29 = .ok (.iconst (-1), 1) := by decide +kernel
theorem d_Bc_progress_30 : decode m_Bc_progress.2.1 30 = .ok (.if_icmp .eq 7, 3) := by decide +kernel
theorem d_Bc_progress_33 : decode m_Bc_progress.2.1 33 = .ok (.iconst 4, 1) := by decide +kernel
theorem d_Bc_progress_34 : decode m_Bc_progress.2.1 34 = .ok (.goto 4, 3) := by decide +kernel
theorem d_Bc_progress_37 : decode m_Bc_progress.2.1 37 = .ok (.iconst 0, 1) := by decide +kernel
theorem d_Bc_progress_38 : decode m_Bc_progress.2.1 38 = .ok (.iadd, 1) := by decide +kernel
theorem d_Bc_progress_39 : decode m_Bc_progress.2.1 39 = .ok (.ireturn, 1) := by decide +kernel
theorem d_El_coin_0 : decode m_El_coin.2.1 0 = .ok (.iload_n 1, 1) := by decide +kernel
theorem d_El_coin_1 : decode m_El_coin.2.1 1 = .ok (.invokestatic 69, 3) := by decide +kernel
theorem d_El_coin_4 : decode m_El_coin.2.1 4 = .ok (.ifCond .eq 17, 3) := by decide +kernel
theorem d_El_coin_7 : decode m_El_coin.2.1 7 = .ok (.iload_n 2, 1) := by decide +kernel
theorem d_El_coin_8 : decode m_El_coin.2.1 8 = .ok (.invokestatic 30, 3) := by decide +kernel
theorem d_El_coin_11 : decode m_El_coin.2.1 11 = .ok (.ifCond .eq 10, 3) := by decide +kernel
theorem d_El_coin_14 : decode m_El_coin.2.1 14 = .ok (.iload_n 3, 1) := by decide +kernel
theorem d_El_coin_15 : decode m_El_coin.2.1 15 = .ok (.invokestatic 72, 3) := by decide +kernel
theorem d_El_coin_18 : decode m_El_coin.2.1 18 = .ok (.ifCond .ne 5, 3) := by decide +kernel
theorem d_El_coin_21 : decode m_El_coin.2.1 21 = .ok (.iconst (-1), 1) := by decide +kernel
theorem d_El_coin_22 : decode m_El_coin.2.1 22 = .ok (.ireturn, 1) := by decide +kernel
theorem d_El_coin_23 : decode m_El_coin.2.1 23 = .ok (.aload_n 0, 1) := by decide +kernel
theorem d_El_coin_24 : decode m_El_coin.2.1 24 = .ok (.getfield 10, 3) := by decide +kernel
theorem d_El_coin_27 : decode m_El_coin.2.1 27 = .ok (.iload_n 1, 1) := by decide +kernel
theorem d_El_coin_28 : decode m_El_coin.2.1 28 = .ok (.iload_n 2, 1) := by decide +kernel
theorem d_El_coin_29 : decode m_El_coin.2.1 29 = .ok (.iload_n 3, 1) := by decide +kernel
theorem d_El_coin_30 : decode m_El_coin.2.1 30 = .ok (.invokestatic 131, 3) := by decide +kernel
theorem d_El_coin_33 : decode m_El_coin.2.1 33 = .ok (.ireturn, 1) := by decide +kernel
theorem d_El_root_0 : decode m_El_root.2.1 0 = .ok (.iload_n 1, 1) := by decide +kernel
theorem d_El_root_1 : decode m_El_root.2.1 1 = .ok (.sipush 255, 3) := by decide +kernel
theorem d_El_root_4 : decode m_El_root.2.1 4 = .ok (.iand, 1) := by decide +kernel
theorem d_El_root_5 : decode m_El_root.2.1 5 = .ok (.iload_n 2, 1) := by decide +kernel
theorem d_El_root_6 : decode m_El_root.2.1 6 = .ok (.sipush 255, 3) := by decide +kernel
theorem d_El_root_9 : decode m_El_root.2.1 9 = .ok (.iand, 1) := by decide +kernel
theorem d_El_root_10 : decode m_El_root.2.1 10 = .ok (.invokestatic 135, 3) := by decide +kernel
theorem d_El_root_13 : decode m_El_root.2.1 13 = .ok (.invokestatic 140, 3) := by decide +kernel
theorem d_El_root_16 : decode m_El_root.2.1 16 = .ok (.ireturn, 1) := by decide +kernel
theorem d_Lw_cell_0 : decode m_Lw_cell.2.1 0 = .ok (.iload_n 1, 1) := by decide +kernel
theorem d_Lw_cell_1 : decode m_Lw_cell.2.1 1 = .ok (.aload_n 0, 1) := by decide +kernel
theorem d_Lw_cell_2 : decode m_Lw_cell.2.1 2 = .ok (.arraylength, 1) := by decide +kernel
theorem d_Lw_cell_3 : decode m_Lw_cell.2.1 3 = .ok (.if_icmp .ge 9, 3) := by decide +kernel
theorem d_Lw_cell_6 : decode m_Lw_cell.2.1 6 = .ok (.aload_n 0, 1) := by decide +kernel
theorem d_Lw_cell_7 : decode m_Lw_cell.2.1 7 = .ok (.iload_n 1, 1) := by decide +kernel
theorem d_Lw_cell_8 : decode m_Lw_cell.2.1 8 = .ok (.iaload, 1) := by decide +kernel
theorem d_Lw_cell_9 : decode m_Lw_cell.2.1 9 = .ok (.goto 4, 3) := by decide +kernel
theorem d_Lw_cell_12 : decode m_Lw_cell.2.1 12 = .ok (.iconst 0, 1) := by decide +kernel
theorem d_Lw_cell_13 : decode m_Lw_cell.2.1 13 = .ok (.ireturn, 1) := by decide +kernel
theorem d_Mo_init_0 : decode m_Mo_init.2.1 0 = .ok (.aload_n 0, 1) := by decide +kernel
theorem d_Mo_init_1 : decode m_Mo_init.2.1 1 = .ok (.invokespecial 1, 3) := by decide +kernel
theorem d_Mo_init_4 : decode m_Mo_init.2.1 4 = .ok (.aload_n 0, 1) := by decide +kernel
theorem d_Mo_init_5 : decode m_Mo_init.2.1 5 = .ok (.sipush 1700, 3) := by decide +kernel
theorem d_Mo_init_8 : decode m_Mo_init.2.1 8 = .ok (.newarray .int, 2) := by decide +kernel
theorem d_Mo_init_10 : decode m_Mo_init.2.1 10 = .ok (.putfield 7, 3) := by decide +kernel
theorem d_Mo_init_13 : decode m_Mo_init.2.1 13 = .ok (.aload_n 0, 1) := by decide +kernel
theorem d_Mo_init_14 : decode m_Mo_init.2.1 14 = .ok (.sipush 1700, 3) := by decide +kernel
theorem d_Mo_init_17 : decode m_Mo_init.2.1 17 = .ok (.newarray .int, 2) := by decide +kernel
theorem d_Mo_init_19 : decode m_Mo_init.2.1 19 = .ok (.putfield 13, 3) := by decide +kernel
theorem d_Mo_init_22 : decode m_Mo_init.2.1 22 = .ok (.aload_n 0, 1) := by decide +kernel
theorem d_Mo_init_23 : decode m_Mo_init.2.1 23 = .ok (.sipush 1700, 3) := by decide +kernel
theorem d_Mo_init_26 : decode m_Mo_init.2.1 26 = .ok (.newarray .int, 2) := by decide +kernel
theorem d_Mo_init_28 : decode m_Mo_init.2.1 28 = .ok (.putfield 16, 3) := by decide +kernel
theorem d_Mo_init_31 : decode m_Mo_init.2.1 31 = .ok (.aload_n 0, 1) := by decide +kernel
theorem d_Mo_init_32 : decode m_Mo_init.2.1 32 = .ok (.iconst 4, 1) := by decide +kernel
theorem d_Mo_init_33 : decode m_Mo_init.2.1 33 = .ok (.newarray .int, 2) := by decide +kernel
theorem d_Mo_init_35 : decode m_Mo_init.2.1 35 = .ok (.dup, 1) := by decide +kernel
theorem d_Mo_init_36 : decode m_Mo_init.2.1 36 = .ok (.iconst 0, 1) := by decide +kernel
theorem d_Mo_init_37 : decode m_Mo_init.2.1 37 = .ok (.iconst (-1), 1) := by decide +kernel
theorem d_Mo_init_38 : decode m_Mo_init.2.1 38 = .ok (.iastore, 1) := by decide +kernel
theorem d_Mo_init_39 : decode m_Mo_init.2.1 39 = .ok (.dup, 1) := by decide +kernel
theorem d_Mo_init_40 : decode m_Mo_init.2.1 40 = .ok (.iconst 1, 1) := by decide +kernel
theorem d_Mo_init_41 : decode m_Mo_init.2.1 41 = .ok (.iconst (-1), 1) := by decide +kernel
theorem d_Mo_init_42 : decode m_Mo_init.2.1 42 = .ok (.iastore, 1) := by decide +kernel
theorem d_Mo_init_43 : decode m_Mo_init.2.1 43 = .ok (.dup, 1) := by decide +kernel
theorem d_Mo_init_44 : decode m_Mo_init.2.1 44 = .ok (.iconst 2, 1) := by decide +kernel
theorem d_Mo_init_45 : decode m_Mo_init.2.1 45 = .ok (.iconst (-1), 1) := by decide +kernel
theorem d_Mo_init_46 : decode m_Mo_init.2.1 46 = .ok (.iastore, 1) := by decide +kernel
theorem d_Mo_init_47 : decode m_Mo_init.2.1 47 = .ok (.dup, 1) := by decide +kernel
theorem d_Mo_init_48 : decode m_Mo_init.2.1 48 = .ok (.iconst 3, 1) := by decide +kernel
theorem d_Mo_init_49 : decode m_Mo_init.2.1 49 = .ok (.iconst (-1), 1) := by decide +kernel
theorem d_Mo_init_50 : decode m_Mo_init.2.1 50 = .ok (.iastore, 1) := by decide +kernel
theorem d_Mo_init_51 : decode m_Mo_init.2.1 51 = .ok (.putfield 19, 3) := by decide +kernel
theorem d_Mo_init_54 : decode m_Mo_init.2.1 54 = .ok (.aload_n 0, 1) := by decide +kernel
theorem d_Mo_init_55 : decode m_Mo_init.2.1 55 = .ok (.iconst 4, 1) := by decide +kernel
theorem d_Mo_init_56 : decode m_Mo_init.2.1 56 = .ok (.newarray .int, 2) := by decide +kernel
theorem d_Mo_init_58 : decode m_Mo_init.2.1 58 = .ok (.putfield 22, 3) := by decide +kernel
theorem d_Mo_init_61 : decode m_Mo_init.2.1 61 = .ok (.aload_n 0, 1) := by decide +kernel
theorem d_Mo_init_62 : decode m_Mo_init.2.1 62 = .ok (.bipush 48, 2) := by decide +kernel
theorem d_Mo_init_64 : decode m_Mo_init.2.1 64 = .ok (.newarray .int, 2) := by decide +kernel
theorem d_Mo_init_66 : decode m_Mo_init.2.1 66 = .ok (.putfield 25, 3) := by decide +kernel
theorem d_Mo_init_69 : decode m_Mo_init.2.1 69 = .ok (.aload_n 0, 1) := by decide +kernel
theorem d_Mo_init_70 : decode m_Mo_init.2.1 70 = .ok (.iconst 4, 1) := by decide +kernel
theorem d_Mo_init_71 : decode m_Mo_init.2.1 71 = .ok (.newarray .int, 2) := by decide +kernel
theorem d_Mo_init_73 : decode m_Mo_init.2.1 73 = .ok (.putfield 28, 3) := by decide +kernel
theorem d_Mo_init_76 : decode m_Mo_init.2.1 76 = .ok (.aload_n 0, 1) := by decide +kernel
theorem d_Mo_init_77 : decode m_Mo_init.2.1 77 = .ok (.sipush 160, 3) := by decide +kernel
theorem d_Mo_init_80 : decode m_Mo_init.2.1 80 = .ok (.newarray .int, 2) := by decide +kernel
theorem d_Mo_init_82 : decode m_Mo_init.2.1 82 = .ok (.putfield 31, 3) := by decide +kernel
theorem d_Mo_init_85 : decode m_Mo_init.2.1 85 = .ok (.aload_n 0, 1) := by decide +kernel
theorem d_Mo_init_86 : decode m_Mo_init.2.1 86 = .ok (.bipush 64, 2) := by decide +kernel
theorem d_Mo_init_88 : decode m_Mo_init.2.1 88 = .ok (.newarray .boolean, 2) := by decide +kernel
theorem d_Mo_init_90 : decode m_Mo_init.2.1 90 = .ok (.putfield 34, 3) := by decide +kernel
theorem d_Mo_init_93 : decode m_Mo_init.2.1 93 = .ok (.aload_n 0, 1) := by decide +kernel
theorem d_Mo_init_94 : decode m_Mo_init.2.1 94 = .ok (.bipush 64, 2) := by decide +kernel
theorem d_Mo_init_96 : decode m_Mo_init.2.1 96 = .ok (.newarray .int, 2) := by decide +kernel
theorem d_Mo_init_98 : decode m_Mo_init.2.1 98 = .ok (.putfield 38, 3) := by decide +kernel
theorem d_Mo_init_101 : decode m_Mo_init.2.1 101 = .ok (.aload_n 0, 1) := by decide +kernel
theorem d_Mo_init_102 : decode m_Mo_init.2.1 102 = .ok (.bipush 64, 2) := by decide +kernel
theorem d_Mo_init_104 : decode m_Mo_init.2.1 104 = .ok (.newarray .int, 2) := by decide +kernel
theorem d_Mo_init_106 : decode m_Mo_init.2.1 106 = .ok (.putfield 41, 3) := by decide +kernel
theorem d_Mo_init_109 : decode m_Mo_init.2.1 109 = .ok (.aload_n 0, 1) := by decide +kernel
theorem d_Mo_init_110 : decode m_Mo_init.2.1 110 = .ok (.sipush 256, 3) := by decide +kernel
theorem d_Mo_init_113 : decode m_Mo_init.2.1 113 = .ok (.newarray .boolean, 2) := by decide +kernel
theorem d_Mo_init_115 : decode m_Mo_init.2.1 115 = .ok (.putfield 44, 3) := by decide +kernel
theorem d_Mo_init_118 : decode m_Mo_init.2.1 118 = .ok (.aload_n 0, 1) := by decide +kernel
theorem d_Mo_init_119 : decode m_Mo_init.2.1 119 = .ok (.sipush 256, 3) := by decide +kernel
theorem d_Mo_init_122 : decode m_Mo_init.2.1 122 = .ok (.newarray .int, 2) := by decide +kernel
theorem d_Mo_init_124 : decode m_Mo_init.2.1 124 = .ok (.putfield 47, 3) := by decide +kernel
theorem d_Mo_init_127 : decode m_Mo_init.2.1 127 = .ok (.aload_n 0, 1) := by decide +kernel
theorem d_Mo_init_128 : decode m_Mo_init.2.1 128 = .ok (.sipush 256, 3) := by decide +kernel
theorem d_Mo_init_131 : decode m_Mo_init.2.1 131 = .ok (.newarray .int, 2) := by decide +kernel
theorem d_Mo_init_133 : decode m_Mo_init.2.1 133 = .ok (.putfield 50, 3) := by decide +kernel
theorem d_Mo_init_136 : decode m_Mo_init.2.1 136 = .ok (.aload_n 0, 1) := by decide +kernel
theorem d_Mo_init_137 : decode m_Mo_init.2.1 137 = .ok (.sipush 256, 3) := by decide +kernel
theorem d_Mo_init_140 : decode m_Mo_init.2.1 140 = .ok (.newarray .boolean, 2) := by decide +kernel
theorem d_Mo_init_142 : decode m_Mo_init.2.1 142 = .ok (.putfield 53, 3) := by decide +kernel
theorem d_Mo_init_145 : decode m_Mo_init.2.1 145 = .ok (.aload_n 0, 1) := by decide +kernel
theorem d_Mo_init_146 : decode m_Mo_init.2.1 146 = .ok (.sipush 256, 3) := by decide +kernel
theorem d_Mo_init_149 : decode m_Mo_init.2.1 149 = .ok (.newarray .int, 2) := by decide +kernel
theorem d_Mo_init_151 : decode m_Mo_init.2.1 151 = .ok (.putfield 56, 3) := by decide +kernel
theorem d_Mo_init_154 : decode m_Mo_init.2.1 154 = .ok (.aload_n 0, 1) := by decide +kernel
theorem d_Mo_init_155 : decode m_Mo_init.2.1 155 = .ok (.sipush 1536, 3) := by decide +kernel
theorem d_Mo_init_158 : decode m_Mo_init.2.1 158 = .ok (.newarray .int, 2) := by decide +kernel
theorem d_Mo_init_160 : decode m_Mo_init.2.1 160 = .ok (.putfield 59, 3) := by decide +kernel
theorem d_Mo_init_163 : decode m_Mo_init.2.1 163 = .ok (.aload_n 0, 1) := by decide +kernel
theorem d_Mo_init_164 : decode m_Mo_init.2.1 164 = .ok (.sipush 1536, 3) := by decide +kernel
theorem d_Mo_init_167 : decode m_Mo_init.2.1 167 = .ok (.newarray .int, 2) := by decide +kernel
theorem d_Mo_init_169 : decode m_Mo_init.2.1 169 = .ok (.putfield 62, 3) := by decide +kernel
theorem d_Mo_init_172 : decode m_Mo_init.2.1 172 = .ok (.aload_n 0, 1) := by decide +kernel
theorem d_Mo_init_173 : decode m_Mo_init.2.1 173 = .ok (.bipush 64, 2) := by decide +kernel
theorem d_Mo_init_175 : decode m_Mo_init.2.1 175 = .ok (.newarray .boolean, 2) := by decide +kernel
theorem d_Mo_init_177 : decode m_Mo_init.2.1 177 = .ok (.putfield 65, 3) := by decide +kernel
theorem d_Mo_init_180 : decode m_Mo_init.2.1 180 = .ok (.aload_n 0, 1) := by decide +kernel
theorem d_Mo_init_181 : decode m_Mo_init.2.1 181 = .ok (.bipush 64, 2) := by decide +kernel
theorem d_Mo_init_183 : decode m_Mo_init.2.1 183 = .ok (.newarray .boolean, 2) := by decide +kernel
theorem d_Mo_init_185 : decode m_Mo_init.2.1 185 = .ok (.putfield 68, 3) := by decide +kernel
theorem d_Mo_init_188 : decode m_Mo_init.2.1 188 = .ok (.aload_n 0, 1) := by decide +kernel
theorem d_Mo_init_189 : decode m_Mo_init.2.1 189 = .ok (.sipush 384, 3) := by decide +kernel
theorem d_Mo_init_192 : decode m_Mo_init.2.1 192 = .ok (.newarray .int, 2) := by decide +kernel
theorem d_Mo_init_194 : decode m_Mo_init.2.1 194 = .ok (.putfield 71, 3) := by decide +kernel
theorem d_Mo_init_197 : decode m_Mo_init.2.1 197 = .ok (.aload_n 0, 1) := by decide +kernel
theorem d_Mo_init_198 : decode m_Mo_init.2.1 198 = .ok (.sipush 384, 3) := by decide +kernel
theorem d_Mo_init_201 : decode m_Mo_init.2.1 201 = .ok (.newarray .boolean, 2) := by decide +kernel
theorem d_Mo_init_203 : decode m_Mo_init.2.1 203 = .ok (.putfield 74, 3) := by decide +kernel
theorem d_Mo_init_206 : decode m_Mo_init.2.1 206 = .ok (.aload_n 0, 1) := by decide +kernel
theorem d_Mo_init_207 : decode m_Mo_init.2.1 207 = .ok (.bipush 16, 2) := by decide +kernel
theorem d_Mo_init_209 : decode m_Mo_init.2.1 209 = .ok (.newarray .int, 2) := by decide +kernel
theorem d_Mo_init_211 : decode m_Mo_init.2.1 211 = .ok (.putfield 77, 3) := by decide +kernel
theorem d_Mo_init_214 : decode m_Mo_init.2.1 214 = .ok (.aload_n 0, 1) := by decide +kernel
theorem d_Mo_init_215 : decode m_Mo_init.2.1 215 = .ok (.bipush 16, 2) := by decide +kernel
theorem d_Mo_init_217 : decode m_Mo_init.2.1 217 = .ok (.newarray .boolean, 2) := by decide +kernel
theorem d_Mo_init_219 : decode m_Mo_init.2.1 219 = .ok (.putfield 80, 3) := by decide +kernel
theorem d_Mo_init_222 : decode m_Mo_init.2.1 222 = .ok (.aload_n 0, 1) := by decide +kernel
theorem d_Mo_init_223 : decode m_Mo_init.2.1 223 = .ok (.bipush 16, 2) := by decide +kernel
theorem d_Mo_init_225 : decode m_Mo_init.2.1 225 = .ok (.newarray .int, 2) := by decide +kernel
theorem d_Mo_init_227 : decode m_Mo_init.2.1 227 = .ok (.putfield 83, 3) := by decide +kernel
theorem d_Mo_init_230 : decode m_Mo_init.2.1 230 = .ok (.aload_n 0, 1) := by decide +kernel
theorem d_Mo_init_231 : decode m_Mo_init.2.1 231 = .ok (.bipush 16, 2) := by decide +kernel
theorem d_Mo_init_233 : decode m_Mo_init.2.1 233 = .ok (.newarray .int, 2) := by decide +kernel
theorem d_Mo_init_235 : decode m_Mo_init.2.1 235 = .ok (.putfield 86, 3) := by decide +kernel
theorem d_Mo_init_238 : decode m_Mo_init.2.1 238 = .ok (.aload_n 0, 1) := by decide +kernel
theorem d_Mo_init_239 : decode m_Mo_init.2.1 239 = .ok (.bipush 16, 2) := by decide +kernel
theorem d_Mo_init_241 : decode m_Mo_init.2.1 241 = .ok (.newarray .int, 2) := by decide +kernel
theorem d_Mo_init_243 : decode m_Mo_init.2.1 243 = .ok (.putfield 89, 3) := by decide +kernel
theorem d_Mo_init_246 : decode m_Mo_init.2.1 246 = .ok (.aload_n 0, 1) := by decide +kernel
theorem d_Mo_init_247 : decode m_Mo_init.2.1 247 = .ok (.bipush 16, 2) := by decide +kernel
theorem d_Mo_init_249 : decode m_Mo_init.2.1 249 = .ok (.newarray .int, 2) := by decide +kernel
theorem d_Mo_init_251 : decode m_Mo_init.2.1 251 = .ok (.putfield 92, 3) := by decide +kernel
theorem d_Mo_init_254 : decode m_Mo_init.2.1 254 = .ok (.aload_n 0, 1) := by decide +kernel
theorem d_Mo_init_255 : decode m_Mo_init.2.1 255 = .ok (.bipush 16, 2) := by decide +kernel
theorem d_Mo_init_257 : decode m_Mo_init.2.1 257 = .ok (.newarray .int, 2) := by decide +kernel
theorem d_Mo_init_259 : decode m_Mo_init.2.1 259 = .ok (.putfield 95, 3) := by decide +kernel
theorem d_Mo_init_262 : decode m_Mo_init.2.1 262 = .ok (.aload_n 0, 1) := by decide +kernel
theorem d_Mo_init_263 : decode m_Mo_init.2.1 263 = .ok (.bipush 16, 2) := by decide +kernel
theorem d_Mo_init_265 : decode m_Mo_init.2.1 265 = .ok (.newarray .boolean, 2) := by decide +kernel
theorem d_Mo_init_267 : decode m_Mo_init.2.1 267 = .ok (.putfield 98, 3) := by decide +kernel
theorem d_Mo_init_270 : decode m_Mo_init.2.1 270 = .ok (.iload_n 1, 1) := by decide +kernel
theorem d_Mo_init_271 : decode m_Mo_init.2.1 271 = .ok (.ldc 101, 2) := by decide +kernel
theorem d_Mo_init_273 : decode m_Mo_init.2.1 273 = .ok (.imul, 1) := by decide +kernel
theorem d_Mo_init_274 : decode m_Mo_init.2.1 274 = .ok (.istore_n 2, 1) := by decide +kernel
theorem d_Mo_init_275 : decode m_Mo_init.2.1 275 = .ok (.aload_n 0, 1) := by decide +kernel
theorem d_Mo_init_276 : decode m_Mo_init.2.1 276 = .ok (.iload_n 2, 1) := by decide +kernel
theorem d_Mo_init_277 : decode m_Mo_init.2.1 277 = .ok (.iload_n 2, 1) := by decide +kernel
theorem d_Mo_init_278 : decode m_Mo_init.2.1 278 = .ok (.bipush 15, 2) := by decide +kernel
theorem d_Mo_init_280 : decode m_Mo_init.2.1 280 = .ok (.iushr, 1) := by decide +kernel
theorem d_Mo_init_281 : decode m_Mo_init.2.1 281 = .ok (.ixor, 1) := by decide +kernel
theorem d_Mo_init_282 : decode m_Mo_init.2.1 282 = .ok (.putfield 102, 3) := by decide +kernel
theorem d_Mo_init_285 : decode m_Mo_init.2.1 285 = .ok (.return_, 1) := by decide +kernel
theorem d_Mo_root_0 : decode m_Mo_root.2.1 0 = .ok (.iload_n 1, 1) := by decide +kernel
theorem d_Mo_root_1 : decode m_Mo_root.2.1 1 = .ok (.sipush 255, 3) := by decide +kernel
theorem d_Mo_root_4 : decode m_Mo_root.2.1 4 = .ok (.iand, 1) := by decide +kernel
theorem d_Mo_root_5 : decode m_Mo_root.2.1 5 = .ok (.iload_n 2, 1) := by decide +kernel
theorem d_Mo_root_6 : decode m_Mo_root.2.1 6 = .ok (.sipush 255, 3) := by decide +kernel
theorem d_Mo_root_9 : decode m_Mo_root.2.1 9 = .ok (.iand, 1) := by decide +kernel
theorem d_Mo_root_10 : decode m_Mo_root.2.1 10 = .ok (.invokestatic 133, 3) := by decide +kernel
theorem d_Mo_root_13 : decode m_Mo_root.2.1 13 = .ok (.ireturn, 1) := by decide +kernel
theorem d_Mo_rootOfProposal_0 : decode m_Mo_rootOfProposal.2.1 0 = .ok (.iload_n 0, 1) := by decide +kernel
theorem d_Mo_rootOfProposal_1 : decode m_Mo_rootOfProposal.2.1 1 = .ok (.iload_n 1, 1) := by decide +kernel
theorem d_Mo_rootOfProposal_2 : decode m_Mo_rootOfProposal.2.1 2 = .ok (.iconst 0, 1) := by decide +kernel
theorem d_Mo_rootOfProposal_3 : decode m_Mo_rootOfProposal.2.1 3 = .ok (.invokestatic 120, 3) := by decide +kernel
theorem d_Mo_rootOfProposal_6 : decode m_Mo_rootOfProposal.2.1 6 = .ok (.iconst 0, 1) := by decide +kernel
theorem d_Mo_rootOfProposal_7 : decode m_Mo_rootOfProposal.2.1 7 = .ok (.invokestatic 124, 3) := by decide +kernel
theorem d_Mo_rootOfProposal_10 : decode m_Mo_rootOfProposal.2.1 10 = .ok (.iload_n 0, 1) := by decide +kernel
theorem d_Mo_rootOfProposal_11 : decode m_Mo_rootOfProposal.2.1 11 = .ok (.iload_n 1, 1) := by decide +kernel
theorem d_Mo_rootOfProposal_12 : decode m_Mo_rootOfProposal.2.1 12 = .ok (.iconst 1, 1) := by decide +kernel
theorem d_Mo_rootOfProposal_13 : decode m_Mo_rootOfProposal.2.1 13 = .ok (.invokestatic 120, 3) := by decide +kernel
theorem d_Mo_rootOfProposal_16 : decode m_Mo_rootOfProposal.2.1 16 = .ok (.iconst 1, 1) := by decide +kernel
theorem d_Mo_rootOfProposal_17 : decode m_Mo_rootOfProposal.2.1 17 = .ok (.invokestatic 124, 3) := by decide +kernel
theorem d_Mo_rootOfProposal_20 : decode m_Mo_rootOfProposal.2.1 20 = .ok (.invokestatic 127, 3) := by decide +kernel
theorem d_Mo_rootOfProposal_23 : decode m_Mo_rootOfProposal.2.1 23 = .ok (.istore_n 2, 1) := by decide +kernel
theorem d_Mo_rootOfProposal_24 : decode m_Mo_rootOfProposal.2.1 24 = .ok (.iload_n 0, 1) := by decide +kernel
theorem d_Mo_rootOfProposal_25 : decode m_Mo_rootOfProposal.2.1 25 = .ok (.iload_n 1, 1) := by decide +kernel
theorem d_Mo_rootOfProposal_26 : decode m_Mo_rootOfProposal.2.1 26 = .ok (.iconst 2, 1) := by decide +kernel
theorem d_Mo_rootOfProposal_27 : decode m_Mo_rootOfProposal.2.1 27 = .ok (.invokestatic 120, 3) := by decide +kernel
theorem d_Mo_rootOfProposal_30 : decode m_Mo_rootOfProposal.2.1 30 = .ok (.iconst 2, 1) := by decide +kernel
theorem d_Mo_rootOfProposal_31 : decode m_Mo_rootOfProposal.2.1 31 = .ok (.invokestatic 124, 3) := by decide +kernel
theorem d_Mo_rootOfProposal_34 : decode m_Mo_rootOfProposal.2.1 34 = .ok (.iload_n 0, 1) := by decide +kernel
theorem d_Mo_rootOfProposal_35 : decode m_Mo_rootOfProposal.2.1 35 = .ok (.iload_n 1, 1) := by decide +kernel
theorem d_Mo_rootOfProposal_36 : decode m_Mo_rootOfProposal.2.1 36 = .ok (.iconst 3, 1) := by decide +kernel
theorem d_Mo_rootOfProposal_37 : decode m_Mo_rootOfProposal.2.1 37 = .ok (.invokestatic 120, 3) := by decide +kernel
theorem d_Mo_rootOfProposal_40 : decode m_Mo_rootOfProposal.2.1 40 = .ok (.iconst 3, 1) := by decide +kernel
theorem d_Mo_rootOfProposal_41 : decode m_Mo_rootOfProposal.2.1 41 = .ok (.invokestatic 124, 3) := by decide +kernel
theorem d_Mo_rootOfProposal_44 : decode m_Mo_rootOfProposal.2.1 44 = .ok (.invokestatic 127, 3) := by decide +kernel
theorem d_Mo_rootOfProposal_47 : decode m_Mo_rootOfProposal.2.1 47 = .ok (.istore_n 3, 1) := by decide +kernel
theorem d_Mo_rootOfProposal_48 : decode m_Mo_rootOfProposal.2.1 48 = .ok (.iload_n 2, 1) := by decide +kernel
theorem d_Mo_rootOfProposal_49 : decode m_Mo_rootOfProposal.2.1 49 = .ok (.iload_n 3, 1) := by decide +kernel
theorem d_Mo_rootOfProposal_50 : decode m_Mo_rootOfProposal.2.1 50 = .ok (.invokestatic 130, 3) := by decide +kernel
theorem d_Mo_rootOfProposal_53 : decode m_Mo_rootOfProposal.2.1 53 = .ok (.ireturn, 1) := by decide +kernel
theorem d_Mo_partOf_0 : decode m_Mo_partOf.2.1 0 = .ok (.iload_n 0, 1) := by decide +kernel
theorem d_Mo_partOf_1 : decode m_Mo_partOf.2.1 1 = .ok (.iload_n 2, 1) := by decide +kernel
theorem d_Mo_partOf_2 : decode m_Mo_partOf.2.1 2 = .ok (.iload_n 0, 1) := by decide +kernel
theorem d_Mo_partOf_3 : decode m_Mo_partOf.2.1 3 = .ok (.iload_n 1, 1) := by decide +kernel
theorem d_Mo_partOf_4 : decode m_Mo_partOf.2.1 4 = .ok (.ixor, 1) := by decide +kernel
theorem d_Mo_partOf_5 : decode m_Mo_partOf.2.1 5 = .ok (.invokestatic 106, 3) := by decide +kernel
theorem d_Mo_partOf_8 : decode m_Mo_partOf.2.1 8 = .ok (.ixor, 1) := by decide +kernel
theorem d_Mo_partOf_9 : decode m_Mo_partOf.2.1 9 = .ok (.ireturn, 1) := by decide +kernel
theorem d_Mo_times_0 : decode m_Mo_times.2.1 0 = .ok (.iload_n 1, 1) := by decide +kernel
theorem d_Mo_times_1 : decode m_Mo_times.2.1 1 = .ok (.bipush 127, 2) := by decide +kernel
theorem d_Mo_times_3 : decode m_Mo_times.2.1 3 = .ok (.if_icmp .le 16, 3) := by decide +kernel
theorem d_Mo_times_6 : decode m_Mo_times.2.1 6 = .ok (.iconst 2, 1) := by decide +kernel
theorem d_Mo_times_7 : decode m_Mo_times.2.1 7 = .ok (.iload_n 1, 1) := by decide +kernel
theorem d_Mo_times_8 : decode m_Mo_times.2.1 8 = .ok (.imul, 1) := by decide +kernel
theorem d_Mo_times_9 : decode m_Mo_times.2.1 9 = .ok (.bipush 27, 2) := by decide +kernel
theorem d_Mo_times_11 : decode m_Mo_times.2.1 11 = .ok (.ixor, 1) := by decide +kernel
theorem d_Mo_times_12 : decode m_Mo_times.2.1 12 = .ok (.sipush 255, 3) := by decide +kernel
theorem d_Mo_times_15 : decode m_Mo_times.2.1 15 = .ok (.iand, 1) := by decide +kernel
theorem d_Mo_times_16 : decode m_Mo_times.2.1 16 = .ok (.goto 6, 3) := by decide +kernel
theorem d_Mo_times_19 : decode m_Mo_times.2.1 19 = .ok (.iconst 2, 1) := by decide +kernel
theorem d_Mo_times_20 : decode m_Mo_times.2.1 20 = .ok (.iload_n 1, 1) := by decide +kernel
theorem d_Mo_times_21 : decode m_Mo_times.2.1 21 = .ok (.imul, 1) := by decide +kernel
theorem d_Mo_times_22 : decode m_Mo_times.2.1 22 = .ok (.istore_n 2, 1) := by decide +kernel
theorem d_Mo_times_23 : decode m_Mo_times.2.1 23 = .ok (.iload_n 0, 1) := by decide +kernel
theorem d_Mo_times_24 : decode m_Mo_times.2.1 24 = .ok (.ifCond .ne 7, 3) := by decide +kernel
theorem d_Mo_times_27 : decode m_Mo_times.2.1 27 = .ok (.iconst 0, 1) := by decide +kernel
theorem d_Mo_times_28 : decode m_Mo_times.2.1 28 = .ok (.goto 24, 3) := by decide +kernel
theorem d_Mo_times_31 : decode m_Mo_times.2.1 31 = .ok (.iload_n 0, 1) := by decide +kernel
theorem d_Mo_times_32 : decode m_Mo_times.2.1 32 = .ok (.iconst 1, 1) := by decide +kernel
theorem d_Mo_times_33 : decode m_Mo_times.2.1 33 = .ok (.if_icmp .ne 7, 3) := by decide +kernel
theorem d_Mo_times_36 : decode m_Mo_times.2.1 36 = .ok (.iload_n 1, 1) := by decide +kernel
theorem d_Mo_times_37 : decode m_Mo_times.2.1 37 = .ok (.goto 15, 3) := by decide +kernel
theorem d_Mo_times_40 : decode m_Mo_times.2.1 40 = .ok (.iload_n 0, 1) := by decide +kernel
theorem d_Mo_times_41 : decode m_Mo_times.2.1 41 = .ok (.iconst 2, 1) := by decide +kernel
theorem d_Mo_times_42 : decode m_Mo_times.2.1 42 = .ok (.if_icmp .ne 7, 3) := by decide +kernel
theorem d_Mo_times_45 : decode m_Mo_times.2.1 45 = .ok (.iload_n 2, 1) := by decide +kernel
theorem d_Mo_times_46 : decode m_Mo_times.2.1 46 = .ok (.goto 6, 3) := by decide +kernel
theorem d_Mo_times_49 : decode m_Mo_times.2.1 49 = .ok (.iload_n 2, 1) := by decide +kernel
theorem d_Mo_times_50 : decode m_Mo_times.2.1 50 = .ok (.iload_n 1, 1) := by decide +kernel
theorem d_Mo_times_51 : decode m_Mo_times.2.1 51 = .ok (.ixor, 1) := by decide +kernel
theorem d_Mo_times_52 : decode m_Mo_times.2.1 52 = .ok (.ireturn, 1) := by decide +kernel
theorem d_Mo_leaf_0 : decode m_Mo_leaf.2.1 0 = .ok (.iload_n 0, 1) := by decide +kernel
theorem d_Mo_leaf_1 : decode m_Mo_leaf.2.1 1 = .ok (.sipush 167, 3) := by decide +kernel
theorem d_Mo_leaf_4 : decode m_Mo_leaf.2.1 4 = .ok (.imul, 1) := by decide +kernel
theorem d_Mo_leaf_5 : decode m_Mo_leaf.2.1 5 = .ok (.bipush 59, 2) := by decide +kernel
theorem d_Mo_leaf_7 : decode m_Mo_leaf.2.1 7 = .ok (.iload_n 1, 1) := by decide +kernel
theorem d_Mo_leaf_8 : decode m_Mo_leaf.2.1 8 = .ok (.imul, 1) := by decide +kernel
theorem d_Mo_leaf_9 : decode m_Mo_leaf.2.1 9 = .ok (.iadd, 1) := by decide +kernel
theorem d_Mo_leaf_10 : decode m_Mo_leaf.2.1 10 = .ok (.sipush 256, 3) := by decide +kernel
theorem d_Mo_leaf_13 : decode m_Mo_leaf.2.1 13 = .ok (.irem, 1) := by decide +kernel
theorem d_Mo_leaf_14 : decode m_Mo_leaf.2.1 14 = .ok (.ireturn, 1) := by decide +kernel
theorem d_Mo_half_0 : decode m_Mo_half.2.1 0 = .ok (.ldc2_w 110, 3) := by decide +kernel
theorem d_Mo_half_3 : decode m_Mo_half.2.1 3 = .ok (.iload_n 0, 1) := by decide +kernel
theorem d_Mo_half_4 : decode m_Mo_half.2.1 4 = .ok (.i2l, 1) := by decide +kernel
theorem d_Mo_half_5 : decode m_Mo_half.2.1 5 = .ok (.lmul, 1) := by decide +kernel
theorem d_Mo_half_6 : decode m_Mo_half.2.1 6 = .ok (.iload_n 1, 1) := by decide +kernel
theorem d_Mo_half_7 : decode m_Mo_half.2.1 7 = .ok (.i2l, 1) := by decide +kernel
theorem d_Mo_half_8 : decode m_Mo_half.2.1 8 = .ok (.ladd, 1) := by decide +kernel
theorem d_Mo_half_9 : decode m_Mo_half.2.1 9 = .ok (.ldc2_w 112, 3) := by decide +kernel
theorem d_Mo_half_12 : decode m_Mo_half.2.1 12 = .ok (.lmul, 1) := by decide +kernel
theorem d_Mo_half_13 : decode m_Mo_half.2.1 13 = .ok (.ldc2_w 114, 3) := by decide +kernel
theorem d_Mo_half_16 : decode m_Mo_half.2.1 16 = .ok (.ladd, 1) := by decide +kernel
theorem d_Mo_half_17 : decode m_Mo_half.2.1 17 = .ok (.ldc2_w 116, 3) := by decide +kernel
theorem d_Mo_half_20 : decode m_Mo_half.2.1 20 = .ok (.lrem, 1) := by decide +kernel
theorem d_Mo_half_21 : decode m_Mo_half.2.1 21 = .ok (.l2i, 1) := by decide +kernel
theorem d_Mo_half_22 : decode m_Mo_half.2.1 22 = .ok (.ireturn, 1) := by decide +kernel
theorem d_Mo_rootOf_0 : decode m_Mo_rootOf.2.1 0 = .ok (.ldc 118, 2) := by decide +kernel
theorem d_Mo_rootOf_2 : decode m_Mo_rootOf.2.1 2 = .ok (.iload_n 0, 1) := by decide +kernel
theorem d_Mo_rootOf_3 : decode m_Mo_rootOf.2.1 3 = .ok (.imul, 1) := by decide +kernel
theorem d_Mo_rootOf_4 : decode m_Mo_rootOf.2.1 4 = .ok (.iload_n 1, 1) := by decide +kernel
theorem d_Mo_rootOf_5 : decode m_Mo_rootOf.2.1 5 = .ok (.iadd, 1) := by decide +kernel
theorem d_Mo_rootOf_6 : decode m_Mo_rootOf.2.1 6 = .ok (.ldc 119, 2) := by decide +kernel
theorem d_Mo_rootOf_8 : decode m_Mo_rootOf.2.1 8 = .ok (.imul, 1) := by decide +kernel
theorem d_Mo_rootOf_9 : decode m_Mo_rootOf.2.1 9 = .ok (.bipush 7, 2) := by decide +kernel
theorem d_Mo_rootOf_11 : decode m_Mo_rootOf.2.1 11 = .ok (.iadd, 1) := by decide +kernel
theorem d_Mo_rootOf_12 : decode m_Mo_rootOf.2.1 12 = .ok (.ireturn, 1) := by decide +kernel
theorem d_Mo_coin_0 : decode m_Mo_coin.2.1 0 = .ok (.iload_n 1, 1) := by decide +kernel
theorem d_Mo_coin_1 : decode m_Mo_coin.2.1 1 = .ok (.invokestatic 136, 3) := by decide +kernel
theorem d_Mo_coin_4 : decode m_Mo_coin.2.1 4 = .ok (.ifCond .eq 19, 3) := by decide +kernel
theorem d_Mo_coin_7 : decode m_Mo_coin.2.1 7 = .ok (.iload_n 2, 1) := by decide +kernel
theorem d_Mo_coin_8 : decode m_Mo_coin.2.1 8 = .ok (.invokestatic 136, 3) := by decide +kernel
theorem d_Mo_coin_11 : decode m_Mo_coin.2.1 11 = .ok (.ifCond .eq 12, 3) := by decide +kernel
theorem d_Mo_coin_14 : decode m_Mo_coin.2.1 14 = .ok (.iload_n 3, 1) := by decide +kernel
theorem d_Mo_coin_15 : decode m_Mo_coin.2.1 15 = .ok (.ifCond .lt 8, 3) := by decide +kernel
theorem d_Mo_coin_18 : decode m_Mo_coin.2.1 18 = .ok (.iload_n 3, 1) := by decide +kernel
theorem d_Mo_coin_19 : decode m_Mo_coin.2.1 19 = .ok (.iconst 5, 1) := by decide +kernel
theorem d_Mo_coin_20 : decode m_Mo_coin.2.1 20 = .ok (.if_icmp .le 5, 3) := by decide +kernel
theorem d_Mo_coin_23 : decode m_Mo_coin.2.1 23 = .ok (.iconst (-1), 1) := by decide +kernel
theorem d_Mo_coin_24 : decode m_Mo_coin.2.1 24 = .ok (.ireturn, 1) := by decide +kernel
theorem d_Mo_coin_25 : decode m_Mo_coin.2.1 25 = .ok (.aload_n 0, 1) := by decide +kernel
theorem d_Mo_coin_26 : decode m_Mo_coin.2.1 26 = .ok (.iload_n 1, 1) := by decide +kernel
theorem d_Mo_coin_27 : decode m_Mo_coin.2.1 27 = .ok (.iload_n 2, 1) := by decide +kernel
theorem d_Mo_coin_28 : decode m_Mo_coin.2.1 28 = .ok (.iload_n 3, 1) := by decide +kernel
theorem d_Mo_coin_29 : decode m_Mo_coin.2.1 29 = .ok (.invokevirtual 140, 3) := by decide +kernel
theorem d_Mo_coin_32 : decode m_Mo_coin.2.1 32 = .ok (.ireturn, 1) := by decide +kernel
theorem d_Mo_isNode_0 : decode m_Mo_isNode.2.1 0 = .ok (.iload_n 0, 1) := by decide +kernel
theorem d_Mo_isNode_1 : decode m_Mo_isNode.2.1 1 = .ok (.ifCond .lt 12, 3) := by decide +kernel
theorem d_Mo_isNode_4 : decode m_Mo_isNode.2.1 4 = .ok (.iload_n 0, 1) := by decide +kernel
theorem d_Mo_isNode_5 : decode m_Mo_isNode.2.1 5 = .ok (.iconst 3, 1) := by decide +kernel
theorem d_Mo_isNode_6 : decode m_Mo_isNode.2.1 6 = .ok (.if_icmp .gt 7, 3) := by decide +kernel
theorem d_Mo_isNode_9 : decode m_Mo_isNode.2.1 9 = .ok (.iconst 1, 1) := by decide +kernel
theorem d_Mo_isNode_10 : decode m_Mo_isNode.2.1 10 = .ok (.goto 4, 3) := by decide +kernel
theorem d_Mo_isNode_13 : decode m_Mo_isNode.2.1 13 = .ok (.iconst 0, 1) := by decide +kernel
theorem d_Mo_isNode_14 : decode m_Mo_isNode.2.1 14 = .ok (.ireturn, 1) := by decide +kernel
theorem d_Mo_coinOf_0 : decode m_Mo_coinOf.2.1 0 = .ok (.aload_n 0, 1) := by decide +kernel
theorem d_Mo_coinOf_1 : decode m_Mo_coinOf.2.1 1 = .ok (.getfield 102, 3) := by decide +kernel
theorem d_Mo_coinOf_4 : decode m_Mo_coinOf.2.1 4 = .ok (.iload_n 1, 1) := by decide +kernel
theorem d_Mo_coinOf_5 : decode m_Mo_coinOf.2.1 5 = .ok (.bipush 24, 2) := by decide +kernel
theorem d_Mo_coinOf_7 : decode m_Mo_coinOf.2.1 7 = .ok (.imul, 1) := by decide +kernel
theorem d_Mo_coinOf_8 : decode m_Mo_coinOf.2.1 8 = .ok (.iload_n 2, 1) := by decide +kernel
theorem d_Mo_coinOf_9 : decode m_Mo_coinOf.2.1 9 = .ok (.bipush 6, 2) := by decide +kernel
theorem d_Mo_coinOf_11 : decode m_Mo_coinOf.2.1 11 = .ok (.imul, 1) := by decide +kernel
theorem d_Mo_coinOf_12 : decode m_Mo_coinOf.2.1 12 = .ok (.iadd, 1) := by decide +kernel
theorem d_Mo_coinOf_13 : decode m_Mo_coinOf.2.1 13 = .ok (.iload_n 3, 1) := by decide +kernel
theorem d_Mo_coinOf_14 : decode m_Mo_coinOf.2.1 14 = .ok (.iadd, 1) := by decide +kernel
theorem d_Mo_coinOf_15 : decode m_Mo_coinOf.2.1 15 = .ok (.bipush 31, 2) := by decide +kernel
theorem d_Mo_coinOf_17 : decode m_Mo_coinOf.2.1 17 = .ok (.irem, 1) := by decide +kernel
theorem d_Mo_coinOf_18 : decode m_Mo_coinOf.2.1 18 = .ok (.ishr, 1) := by decide +kernel
theorem d_Mo_coinOf_19 : decode m_Mo_coinOf.2.1 19 = .ok (.iconst 1, 1) := by decide +kernel
theorem d_Mo_coinOf_20 : decode m_Mo_coinOf.2.1 20 = .ok (.iand, 1) := by decide +kernel
theorem d_Mo_coinOf_21 : decode m_Mo_coinOf.2.1 21 = .ok (.ireturn, 1) := by decide +kernel
theorem d_Mo_submit_0 : decode m_Mo_submit.2.1 0 = .ok (.iload_n 1, 1) := by decide +kernel
theorem d_Mo_submit_1 : decode m_Mo_submit.2.1 1 = .ok (.invokestatic 136, 3) := by decide +kernel
theorem d_Mo_submit_4 : decode m_Mo_submit.2.1 4 = .ok (.ifCond .eq 35, 3) := by decide +kernel
theorem d_Mo_submit_7 : decode m_Mo_submit.2.1 7 = .ok (.iload_n 2, 1) := by decide +kernel
theorem d_Mo_submit_8 : decode m_Mo_submit.2.1 8 = .ok (.iconst 1, 1) := by decide +kernel
theorem d_Mo_submit_9 : decode m_Mo_submit.2.1 9 = .ok (.if_icmp .lt 30, 3) := by decide +kernel
theorem d_Mo_submit_12 : decode m_Mo_submit.2.1 12 = .ok (.iload_n 2, 1) := by decide +kernel
theorem d_Mo_submit_13 : decode m_Mo_submit.2.1 13 = .ok (.sipush 255, 3) := by decide +kernel
theorem d_Mo_submit_16 : decode m_Mo_submit.2.1 16 = .ok (.if_icmp .gt 23, 3) := by decide +kernel
theorem d_Mo_submit_19 : decode m_Mo_submit.2.1 19 = .ok (.aload_n 0, 1) := by decide +kernel
theorem d_Mo_submit_20 : decode m_Mo_submit.2.1 20 = .ok (.getfield 22, 3) := by decide +kernel
theorem d_Mo_submit_23 : decode m_Mo_submit.2.1 23 = .ok (.iload_n 1, 1) := by decide +kernel
theorem d_Mo_submit_24 : decode m_Mo_submit.2.1 24 = .ok (.iaload, 1) := by decide +kernel
theorem d_Mo_submit_25 : decode m_Mo_submit.2.1 25 = .ok (.bipush 12, 2) := by decide +kernel
theorem d_Mo_submit_27 : decode m_Mo_submit.2.1 27 = .ok (.if_icmp .eq 12, 3) := by decide +kernel
theorem d_Mo_submit_30 : decode m_Mo_submit.2.1 30 = .ok (.aload_n 0, 1) := by decide +kernel
theorem d_Mo_submit_31 : decode m_Mo_submit.2.1 31 = .ok (.iload_n 1, 1) := by decide +kernel
theorem d_Mo_submit_32 : decode m_Mo_submit.2.1 32 = .ok (.iload_n 2, 1) := by decide +kernel
theorem d_Mo_submit_33 : decode m_Mo_submit.2.1 33 = .ok (.invokevirtual 143, 3) := by decide +kernel
theorem d_Mo_submit_36 : decode m_Mo_submit.2.1 36 = .ok (.ifCond .eq 5, 3) := by decide +kernel
theorem d_Mo_submit_39 : decode m_Mo_submit.2.1 39 = .ok (.iconst 0, 1) := by decide +kernel
theorem d_Mo_submit_40 : decode m_Mo_submit.2.1 40 = .ok (.ireturn, 1) := by decide +kernel
theorem d_Mo_submit_41 : decode m_Mo_submit.2.1 41 = .ok (.iconst 0, 1) := by decide +kernel
theorem d_Mo_submit_42 : decode m_Mo_submit.2.1 42 = .ok (.istore_n 3, 1) := by decide +kernel
theorem d_Mo_submit_43 : decode m_Mo_submit.2.1 43 = .ok (.iload_n 3, 1) := by decide +kernel
theorem d_Mo_submit_44 : decode m_Mo_submit.2.1 44 = .ok (.aload_n 0, 1) := by decide +kernel
theorem d_Mo_submit_45 : decode m_Mo_submit.2.1 45 = .ok (.getfield 22, 3) := by decide +kernel
theorem d_Mo_submit_48 : decode m_Mo_submit.2.1 48 = .ok (.iload_n 1, 1) := by decide +kernel
theorem d_Mo_submit_49 : decode m_Mo_submit.2.1 49 = .ok (.iaload, 1) := by decide +kernel
theorem d_Mo_submit_50 : decode m_Mo_submit.2.1 50 = .ok (.if_icmp .ge 26, 3) := by decide +kernel
theorem d_Mo_submit_53 : decode m_Mo_submit.2.1 53 = .ok (.aload_n 0, 1) := by decide +kernel
theorem d_Mo_submit_54 : decode m_Mo_submit.2.1 54 = .ok (.getfield 25, 3) := by decide +kernel
theorem d_Mo_submit_57 : decode m_Mo_submit.2.1 57 = .ok (.bipush 12, 2) := by decide +kernel
theorem d_Mo_submit_59 : decode m_Mo_submit.2.1 59 = .ok (.iload_n 1, 1) := by decide +kernel
theorem d_Mo_submit_60 : decode m_Mo_submit.2.1 60 = .ok (.imul, 1) := by decide +kernel
theorem d_Mo_submit_61 : decode m_Mo_submit.2.1 61 = .ok (.iload_n 3, 1) := by decide +kernel
theorem d_Mo_submit_62 : decode m_Mo_submit.2.1 62 = .ok (.iadd, 1) := by decide +kernel
theorem d_Mo_submit_63 : decode m_Mo_submit.2.1 63 = .ok (.iaload, 1) := by decide +kernel
theorem d_Mo_submit_64 : decode m_Mo_submit.2.1 64 = .ok (.iload_n 2, 1) := by decide +kernel
theorem d_Mo_submit_65 : decode m_Mo_submit.2.1 65 = .ok (.if_icmp .ne 5, 3) := by decide +kernel
theorem d_Mo_submit_68 : decode m_Mo_submit.2.1 68 = .ok (.iconst 0, 1) := by decide +kernel
theorem d_Mo_submit_69 : decode m_Mo_submit.2.1 69 = .ok (.ireturn, 1) := by decide +kernel
theorem d_Mo_submit_70 : decode m_Mo_submit.2.1 70 = .ok (.iinc 3 1, 3) := by decide +kernel
theorem d_Mo_submit_73 : decode m_Mo_submit.2.1 73 = .ok (.goto (-30), 3) := by decide +kernel
theorem d_Mo_submit_76 : decode m_Mo_submit.2.1 76 = .ok (.aload_n 0, 1) := by decide +kernel
theorem d_Mo_submit_77 : decode m_Mo_submit.2.1 77 = .ok (.getfield 25, 3) := by decide +kernel
theorem d_Mo_submit_80 : decode m_Mo_submit.2.1 80 = .ok (.bipush 12, 2) := by decide +kernel
theorem d_Mo_submit_82 : decode m_Mo_submit.2.1 82 = .ok (.iload_n 1, 1) := by decide +kernel
theorem d_Mo_submit_83 : decode m_Mo_submit.2.1 83 = .ok (.imul, 1) := by decide +kernel
theorem d_Mo_submit_84 : decode m_Mo_submit.2.1 84 = .ok (.aload_n 0, 1) := by decide +kernel
theorem d_Mo_submit_85 : decode m_Mo_submit.2.1 85 = .ok (.getfield 22, 3) := by decide +kernel
theorem d_Mo_submit_88 : decode m_Mo_submit.2.1 88 = .ok (.iload_n 1, 1) := by decide +kernel
theorem d_Mo_submit_89 : decode m_Mo_submit.2.1 89 = .ok (.iaload, 1) := by decide +kernel
theorem d_Mo_submit_90 : decode m_Mo_submit.2.1 90 = .ok (.iadd, 1) := by decide +kernel
theorem d_Mo_submit_91 : decode m_Mo_submit.2.1 91 = .ok (.iload_n 2, 1) := by decide +kernel
theorem d_Mo_submit_92 : decode m_Mo_submit.2.1 92 = .ok (.iastore, 1) := by decide +kernel
theorem d_Mo_submit_93 : decode m_Mo_submit.2.1 93 = .ok (.aload_n 0, 1) := by decide +kernel
theorem d_Mo_submit_94 : decode m_Mo_submit.2.1 94 = .ok (.getfield 22, 3) := by decide +kernel
theorem d_Mo_submit_97 : decode m_Mo_submit.2.1 97 = .ok (.iload_n 1, 1) := by decide +kernel
theorem d_Mo_submit_98 : decode m_Mo_submit.2.1 98 = .ok (.dup2, 1) := by decide +kernel
theorem d_Mo_submit_99 : decode m_Mo_submit.2.1 99 = .ok (.iaload, 1) := by decide +kernel
theorem d_Mo_submit_100 : decode m_Mo_submit.2.1 100 = .ok (.iconst 1, 1) := by decide +kernel
theorem d_Mo_submit_101 : decode m_Mo_submit.2.1 101 = .ok (.iadd, 1) := by decide +kernel
theorem d_Mo_submit_102 : decode m_Mo_submit.2.1 102 = .ok (.iastore, 1) := by decide +kernel
theorem d_Mo_submit_103 : decode m_Mo_submit.2.1 103 = .ok (.iconst 1, 1) := by decide +kernel
theorem d_Mo_submit_104 : decode m_Mo_submit.2.1 104 = .ok (.ireturn, 1) := by decide +kernel
theorem d_Mo_isBooked_0 : decode m_Mo_isBooked.2.1 0 = .ok (.iconst 0, 1) := by decide +kernel
theorem d_Mo_isBooked_1 : decode m_Mo_isBooked.2.1 1 = .ok (.istore_n 3, 1) := by decide +kernel
theorem d_Mo_isBooked_2 : decode m_Mo_isBooked.2.1 2 = .ok (.iload_n 3, 1) := by decide +kernel
theorem d_Mo_isBooked_3 : decode m_Mo_isBooked.2.1 3 = .ok (.aload_n 0, 1) := by decide +kernel
theorem d_Mo_isBooked_4 : decode m_Mo_isBooked.2.1 4 = .ok (.getfield 28, 3) := by decide +kernel
theorem d_Mo_isBooked_7 : decode m_Mo_isBooked.2.1 7 = .ok (.iload_n 1, 1) := by decide +kernel
theorem d_Mo_isBooked_8 : decode m_Mo_isBooked.2.1 8 = .ok (.iaload, 1) := by decide +kernel
theorem d_Mo_isBooked_9 : decode m_Mo_isBooked.2.1 9 = .ok (.if_icmp .ge 26, 3) := by decide +kernel
theorem d_Mo_isBooked_12 : decode m_Mo_isBooked.2.1 12 = .ok (.aload_n 0, 1) := by decide +kernel
theorem d_Mo_isBooked_13 : decode m_Mo_isBooked.2.1 13 = .ok (.getfield 31, 3) := by decide +kernel
theorem d_Mo_isBooked_16 : decode m_Mo_isBooked.2.1 16 = .ok (.bipush 40, 2) := by decide +kernel
theorem d_Mo_isBooked_18 : decode m_Mo_isBooked.2.1 18 = .ok (.iload_n 1, 1) := by decide +kernel
theorem d_Mo_isBooked_19 : decode m_Mo_isBooked.2.1 19 = .ok (.imul, 1) := by decide +kernel
theorem d_Mo_isBooked_20 : decode m_Mo_isBooked.2.1 20 = .ok (.iload_n 3, 1) := by decide +kernel
theorem d_Mo_isBooked_21 : decode m_Mo_isBooked.2.1 21 = .ok (.iadd, 1) := by decide +kernel
theorem d_Mo_isBooked_22 : decode m_Mo_isBooked.2.1 22 = .ok (.iaload, 1) := by decide +kernel
theorem d_Mo_isBooked_23 : decode m_Mo_isBooked.2.1 23 = .ok (.iload_n 2, 1) := by decide +kernel
theorem d_Mo_isBooked_24 : decode m_Mo_isBooked.2.1 24 = .ok (.if_icmp .ne 5, 3) := by decide +kernel
theorem d_Mo_isBooked_27 : decode m_Mo_isBooked.2.1 27 = .ok (.iconst 1, 1) := by decide +kernel
theorem d_Mo_isBooked_28 : decode m_Mo_isBooked.2.1 28 = .ok (.ireturn, 1) := by decide +kernel
theorem d_Mo_isBooked_29 : decode m_Mo_isBooked.2.1 29 = .ok (.iinc 3 1, 3) := by decide +kernel
theorem d_Mo_isBooked_32 : decode m_Mo_isBooked.2.1 32 = .ok (.goto (-30), 3) := by decide +kernel
theorem d_Mo_isBooked_35 : decode m_Mo_isBooked.2.1 35 = .ok (.iconst 0, 1) := by decide +kernel
theorem d_Mo_isBooked_36 : decode m_Mo_isBooked.2.1 36 = .ok (.ireturn, 1) := by decide +kernel
theorem d_Mo_waiting_0 : decode m_Mo_waiting.2.1 0 = .ok (.iload_n 1, 1) := by decide +kernel
theorem d_Mo_waiting_1 : decode m_Mo_waiting.2.1 1 = .ok (.invokestatic 136, 3) := by decide +kernel
theorem d_Mo_waiting_4 : decode m_Mo_waiting.2.1 4 = .ok (.ifCond .ne 5, 3) := by decide +kernel
theorem d_Mo_waiting_7 : decode m_Mo_waiting.2.1 7 = .ok (.iconst (-1), 1) := by decide +kernel
theorem d_Mo_waiting_8 : decode m_Mo_waiting.2.1 8 = .ok (.ireturn, 1) := by decide +kernel
theorem d_Mo_waiting_9 : decode m_Mo_waiting.2.1 9 = .ok (.iconst 0, 1) := by decide +kernel
theorem d_Mo_waiting_10 : decode m_Mo_waiting.2.1 10 = .ok (.istore_n 2, 1) := by decide +kernel
theorem d_Mo_waiting_11 : decode m_Mo_waiting.2.1 11 = .ok (.iconst 0, 1) := by decide +kernel
theorem d_Mo_waiting_12 : decode m_Mo_waiting.2.1 12 = .ok (.istore_n 3, 1) := by decide +kernel
theorem d_Mo_waiting_13 : decode m_Mo_waiting.2.1 13 = .ok (.iload_n 3, 1) := by decide +kernel
theorem d_Mo_waiting_14 : decode m_Mo_waiting.2.1 14 = .ok (.aload_n 0, 1) := by decide +kernel
theorem d_Mo_waiting_15 : decode m_Mo_waiting.2.1 15 = .ok (.getfield 147, 3) := by decide +kernel
theorem d_Mo_waiting_18 : decode m_Mo_waiting.2.1 18 = .ok (.if_icmp .ge 26, 3) := by decide +kernel
theorem d_Mo_waiting_21 : decode m_Mo_waiting.2.1 21 = .ok (.aload_n 0, 1) := by decide +kernel
theorem d_Mo_waiting_22 : decode m_Mo_waiting.2.1 22 = .ok (.iload_n 3, 1) := by decide +kernel
theorem d_Mo_waiting_23 : decode m_Mo_waiting.2.1 23 = .ok (.iload_n 1, 1) := by decide +kernel
theorem d_Mo_waiting_24 : decode m_Mo_waiting.2.1 24 = .ok (.invokevirtual 150, 3) := by decide +kernel
theorem d_Mo_waiting_27 : decode m_Mo_waiting.2.1 27 = .ok (.ifCond .eq 9, 3) := by decide +kernel
