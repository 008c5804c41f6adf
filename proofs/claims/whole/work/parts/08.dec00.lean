theorem d_El_init_0 : decode m_El_init.2.1 0 = .ok (.aload_n 0, 1) := by decide +kernel
theorem d_El_init_1 : decode m_El_init.2.1 1 = .ok (.invokespecial 3, 3) := by decide +kernel
theorem d_El_init_4 : decode m_El_init.2.1 4 = .ok (.iload_n 1, 1) := by decide +kernel
theorem d_El_init_5 : decode m_El_init.2.1 5 = .ok (.ldc 9, 2) := by decide +kernel
theorem d_El_init_7 : decode m_El_init.2.1 7 = .ok (.imul, 1) := by decide +kernel
theorem d_El_init_8 : decode m_El_init.2.1 8 = .ok (.istore_n 2, 1) := by decide +kernel
theorem d_El_init_9 : decode m_El_init.2.1 9 = .ok (.aload_n 0, 1) := by decide +kernel
theorem d_El_init_10 : decode m_El_init.2.1 10 = .ok (.iload_n 2, 1) := by decide +kernel
theorem d_El_init_11 : decode m_El_init.2.1 11 = .ok (.iload_n 2, 1) := by decide +kernel
theorem d_El_init_12 : decode m_El_init.2.1 12 = .ok (.bipush 15, 2) := by decide +kernel
theorem d_El_init_14 : decode m_El_init.2.1 14 = .ok (.iushr, 1) := by decide +kernel
theorem d_El_init_15 : decode m_El_init.2.1 15 = .ok (.ixor, 1) := by decide +kernel
theorem d_El_init_16 : decode m_El_init.2.1 16 = .ok (.putfield 10, 3) := by decide +kernel
theorem d_El_init_19 : decode m_El_init.2.1 19 = .ok (.aload_n 0, 1) := by decide +kernel
theorem d_El_init_20 : decode m_El_init.2.1 20 = .ok (.new 14, 3) := by decide +kernel
theorem d_El_init_23 : decode m_El_init.2.1 23 = .ok (.dup, 1) := by decide +kernel
theorem d_El_init_24 : decode m_El_init.2.1 24 = .ok (.invokespecial 16, 3) := by decide +kernel
theorem d_El_init_27 : decode m_El_init.2.1 27 = .ok (.putfield 17, 3) := by decide +kernel
theorem d_El_init_30 : decode m_El_init.2.1 30 = .ok (.aload_n 0, 1) := by decide +kernel
theorem d_El_init_31 : decode m_El_init.2.1 31 = .ok (.iconst 4, 1) := by decide +kernel
theorem d_El_init_32 : decode m_El_init.2.1 32 = .ok (.anewarray 21, 3) := by decide +kernel
theorem d_El_init_35 : decode m_El_init.2.1 35 = .ok (.putfield 23, 3) := by decide +kernel
theorem d_El_init_38 : decode m_El_init.2.1 38 = .ok (.iconst 0, 1) := by decide +kernel
theorem d_El_init_39 : decode m_El_init.2.1 39 = .ok (.istore_n 3, 1) := by decide +kernel
theorem d_El_init_40 : decode m_El_init.2.1 40 = .ok (.iload_n 3, 1) := by decide +kernel
theorem d_El_init_41 : decode m_El_init.2.1 41 = .ok (.iconst 4, 1) := by decide +kernel
theorem d_El_init_42 : decode m_El_init.2.1 42 = .ok (.if_icmp .ge 31, 3) := by decide +kernel
theorem d_El_init_45 : decode m_El_init.2.1 45 = .ok (.aload_n 0, 1) := by decide +kernel
theorem d_El_init_46 : decode m_El_init.2.1 46 = .ok (.getfield 23, 3) := by decide +kernel
theorem d_El_init_49 : decode m_El_init.2.1 49 = .ok (.iload_n 3, 1) := by decide +kernel
theorem d_El_init_50 : decode m_El_init.2.1 50 = .ok (.new 21, 3) := by decide +kernel
theorem d_El_init_53 : decode m_El_init.2.1 53 = .ok (.dup, 1) := by decide +kernel
theorem d_El_init_54 : decode m_El_init.2.1 54 = .ok (.iload_n 3, 1) := by decide +kernel
theorem d_El_init_55 : decode m_El_init.2.1 55 = .ok (.aload_n 0, 1) := by decide +kernel
theorem d_El_init_56 : decode m_El_init.2.1 56 = .ok (.getfield 17, 3) := by decide +kernel
theorem d_El_init_59 : decode m_El_init.2.1 59 = .ok (.aload_n 0, 1) := by decide +kernel
theorem d_El_init_60 : decode m_El_init.2.1 60 = .ok (.getfield 10, 3) := by decide +kernel
theorem d_El_init_63 : decode m_El_init.2.1 63 = .ok (.invokespecial 27, 3) := by decide +kernel
theorem d_El_init_66 : decode m_El_init.2.1 66 = .ok (.aastore, 1) := by decide +kernel
theorem d_El_init_67 : decode m_El_init.2.1 67 = .ok (.iinc 3 1, 3) := by decide +kernel
theorem d_El_init_70 : decode m_El_init.2.1 70 = .ok (.goto (-30), 3) := by decide +kernel
theorem d_El_init_73 : decode m_El_init.2.1 73 = .ok (.return_, 1) := by decide +kernel
theorem d_Ob_init_0 : decode m_Ob_init.2.1 0 = .ok (.return_, 1) := by decide +kernel
theorem d_Nt_init_0 : decode m_Nt_init.2.1 0 = .ok (.aload_n 0, 1) := by decide +kernel
theorem d_Nt_init_1 : decode m_Nt_init.2.1 1 = .ok (.invokespecial 3, 3) := by decide +kernel
theorem d_Nt_init_4 : decode m_Nt_init.2.1 4 = .ok (.aload_n 0, 1) := by decide +kernel
theorem d_Nt_init_5 : decode m_Nt_init.2.1 5 = .ok (.iconst 4, 1) := by decide +kernel
theorem d_Nt_init_6 : decode m_Nt_init.2.1 6 = .ok (.anewarray 9, 3) := by decide +kernel
theorem d_Nt_init_9 : decode m_Nt_init.2.1 9 = .ok (.putfield 11, 3) := by decide +kernel
theorem d_Nt_init_12 : decode m_Nt_init.2.1 12 = .ok (.iconst 0, 1) := by decide +kernel
theorem d_Nt_init_13 : decode m_Nt_init.2.1 13 = .ok (.istore_n 1, 1) := by decide +kernel
theorem d_Nt_init_14 : decode m_Nt_init.2.1 14 = .ok (.iload_n 1, 1) := by decide +kernel
theorem d_Nt_init_15 : decode m_Nt_init.2.1 15 = .ok (.iconst 4, 1) := by decide +kernel
theorem d_Nt_init_16 : decode m_Nt_init.2.1 16 = .ok (.if_icmp .ge 22, 3) := by decide +kernel
theorem d_Nt_init_19 : decode m_Nt_init.2.1 19 = .ok (.aload_n 0, 1) := by decide +kernel
theorem d_Nt_init_20 : decode m_Nt_init.2.1 20 = .ok (.getfield 11, 3) := by decide +kernel
theorem d_Nt_init_23 : decode m_Nt_init.2.1 23 = .ok (.iload_n 1, 1) := by decide +kernel
theorem d_Nt_init_24 : decode m_Nt_init.2.1 24 = .ok (.new 9, 3) := by decide +kernel
theorem d_Nt_init_27 : decode m_Nt_init.2.1 27 = .ok (.dup, 1) := by decide +kernel
theorem d_Nt_init_28 : decode m_Nt_init.2.1 28 = .ok (.invokespecial 17, 3) := by decide +kernel
theorem d_Nt_init_31 : decode m_Nt_init.2.1 31 = .ok (.aastore, 1) := by decide +kernel
theorem d_Nt_init_32 : decode m_Nt_init.2.1 32 = .ok (.iinc 1 1, 3) := by decide +kernel
theorem d_Nt_init_35 : decode m_Nt_init.2.1 35 = .ok (.goto (-21), 3) := by decide +kernel
theorem d_Nt_init_38 : decode m_Nt_init.2.1 38 = .ok (.return_, 1) := by decide +kernel
theorem d_In_init_0 : decode m_In_init.2.1 0 = .ok (.aload_n 0, 1) := by decide +kernel
theorem d_In_init_1 : decode m_In_init.2.1 1 = .ok (.invokespecial 1, 3) := by decide +kernel
theorem d_In_init_4 : decode m_In_init.2.1 4 = .ok (.aload_n 0, 1) := by decide +kernel
theorem d_In_init_5 : decode m_In_init.2.1 5 = .ok (.new 7, 3) := by decide +kernel
theorem d_In_init_8 : decode m_In_init.2.1 8 = .ok (.dup, 1) := by decide +kernel
theorem d_In_init_9 : decode m_In_init.2.1 9 = .ok (.invokespecial 9, 3) := by decide +kernel
theorem d_In_init_12 : decode m_In_init.2.1 12 = .ok (.putfield 10, 3) := by decide +kernel
theorem d_In_init_15 : decode m_In_init.2.1 15 = .ok (.return_, 1) := by decide +kernel
theorem d_Al_init_0 : decode m_Al_init.2.1 0 = .ok (.aload_n 0, 1) := by decide +kernel
theorem d_Al_init_1 : decode m_Al_init.2.1 1 = .ok (.invokespecial 1, 3) := by decide +kernel
theorem d_Al_init_4 : decode m_Al_init.2.1 4 = .ok (.aload_n 0, 1) := by decide +kernel
theorem d_Al_init_5 : decode m_Al_init.2.1 5 = .ok (.getstatic 39, 3) := by decide +kernel
theorem d_Al_init_8 : decode m_Al_init.2.1 8 = .ok (.putfield 9, 3) := by decide +kernel
theorem d_Al_init_11 : decode m_Al_init.2.1 11 = .ok (.return_, 1) := by decide +kernel
theorem d_Ab_init_0 : decode m_Ab_init.2.1 0 = .ok (.aload_n 0, 1) := by decide +kernel
theorem d_Ab_init_1 : decode m_Ab_init.2.1 1 = .ok (.invokespecial 1, 3) := by decide +kernel
theorem d_Ab_init_4 : decode m_Ab_init.2.1 4 = .ok (.aload_n 0, 1) := by decide +kernel
theorem d_Ab_init_5 : decode m_Ab_init.2.1 5 = .ok (.iconst 0, 1) := by decide +kernel
theorem d_Ab_init_6 : decode m_Ab_init.2.1 6 = .ok (.putfield 7, 3) := by decide +kernel
theorem d_Ab_init_9 : decode m_Ab_init.2.1 9 = .ok (.return_, 1) := by decide +kernel
theorem d_Ac_init_0 : decode m_Ac_init.2.1 0 = .ok (.aload_n 0, 1) := by decide +kernel
theorem d_Ac_init_1 : decode m_Ac_init.2.1 1 = .ok (.invokespecial 1, 3) := by decide +kernel
theorem d_Ac_init_4 : decode m_Ac_init.2.1 4 = .ok (.return_, 1) := by decide +kernel
theorem d_Nd_init_0 : decode m_Nd_init.2.1 0 = .ok (.aload_n 0, 1) := by decide +kernel
theorem d_Nd_init_1 : decode m_Nd_init.2.1 1 = .ok (.invokespecial 3, 3) := by decide +kernel
theorem d_Nd_init_4 : decode m_Nd_init.2.1 4 = .ok (.aload_n 0, 1) := by decide +kernel
theorem d_Nd_init_5 : decode m_Nd_init.2.1 5 = .ok (.new 9, 3) := by decide +kernel
theorem d_Nd_init_8 : decode m_Nd_init.2.1 8 = .ok (.dup, 1) := by decide +kernel
theorem d_Nd_init_9 : decode m_Nd_init.2.1 9 = .ok (.bipush 12, 2) := by decide +kernel
theorem d_Nd_init_11 : decode m_Nd_init.2.1 11 = .ok (.invokespecial 11, 3) := by decide +kernel
theorem d_Nd_init_14 : decode m_Nd_init.2.1 14 = .ok (.putfield 14, 3) := by decide +kernel
theorem d_Nd_init_17 : decode m_Nd_init.2.1 17 = .ok (.aload_n 0, 1) := by decide +kernel
theorem d_Nd_init_18 : decode m_Nd_init.2.1 18 = .ok (.new 9, 3) := by decide +kernel
theorem d_Nd_init_21 : decode m_Nd_init.2.1 21 = .ok (.dup, 1) := by decide +kernel
theorem d_Nd_init_22 : decode m_Nd_init.2.1 22 = .ok (.bipush 32, 2) := by decide +kernel
theorem d_Nd_init_24 : decode m_Nd_init.2.1 24 = .ok (.invokespecial 11, 3) := by decide +kernel
theorem d_Nd_init_27 : decode m_Nd_init.2.1 27 = .ok (.putfield 20, 3) := by decide +kernel
theorem d_Nd_init_30 : decode m_Nd_init.2.1 30 = .ok (.aload_n 0, 1) := by decide +kernel
theorem d_Nd_init_31 : decode m_Nd_init.2.1 31 = .ok (.bipush 16, 2) := by decide +kernel
theorem d_Nd_init_33 : decode m_Nd_init.2.1 33 = .ok (.anewarray 23, 3) := by decide +kernel
theorem d_Nd_init_36 : decode m_Nd_init.2.1 36 = .ok (.putfield 25, 3) := by decide +kernel
theorem d_Nd_init_39 : decode m_Nd_init.2.1 39 = .ok (.aload_n 0, 1) := by decide +kernel
theorem d_Nd_init_40 : decode m_Nd_init.2.1 40 = .ok (.bipush 16, 2) := by decide +kernel
theorem d_Nd_init_42 : decode m_Nd_init.2.1 42 = .ok (.anewarray 29, 3) := by decide +kernel
theorem d_Nd_init_45 : decode m_Nd_init.2.1 45 = .ok (.putfield 31, 3) := by decide +kernel
theorem d_Nd_init_48 : decode m_Nd_init.2.1 48 = .ok (.aload_n 0, 1) := by decide +kernel
theorem d_Nd_init_49 : decode m_Nd_init.2.1 49 = .ok (.iconst (-1), 1) := by decide +kernel
theorem d_Nd_init_50 : decode m_Nd_init.2.1 50 = .ok (.putfield 35, 3) := by decide +kernel
theorem d_Nd_init_53 : decode m_Nd_init.2.1 53 = .ok (.aload_n 0, 1) := by decide +kernel
theorem d_Nd_init_54 : decode m_Nd_init.2.1 54 = .ok (.iload_n 1, 1) := by decide +kernel
theorem d_Nd_init_55 : decode m_Nd_init.2.1 55 = .ok (.putfield 39, 3) := by decide +kernel
theorem d_Nd_init_58 : decode m_Nd_init.2.1 58 = .ok (.aload_n 0, 1) := by decide +kernel
theorem d_Nd_init_59 : decode m_Nd_init.2.1 59 = .ok (.aload_n 2, 1) := by decide +kernel
theorem d_Nd_init_60 : decode m_Nd_init.2.1 60 = .ok (.putfield 42, 3) := by decide +kernel
theorem d_Nd_init_63 : decode m_Nd_init.2.1 63 = .ok (.iconst 0, 1) := by decide +kernel
theorem d_Nd_init_64 : decode m_Nd_init.2.1 64 = .ok (.istore 4, 2) := by decide +kernel
theorem d_Nd_init_66 : decode m_Nd_init.2.1 66 = .ok (.iload 4, 2) := by decide +kernel
theorem d_Nd_init_68 : decode m_Nd_init.2.1 68 = .ok (.bipush 16, 2) := by decide +kernel
theorem d_Nd_init_70 : decode m_Nd_init.2.1 70 = .ok (.if_icmp .ge 58, 3) := by decide +kernel
theorem d_Nd_init_73 : decode m_Nd_init.2.1 73 = .ok (.aload_n 0, 1) := by decide +kernel
theorem d_Nd_init_74 : decode m_Nd_init.2.1 74 = .ok (.getfield 25, 3) := by decide +kernel
theorem d_Nd_init_77 : decode m_Nd_init.2.1 77 = .ok (.iload 4, 2) := by decide +kernel
theorem d_Nd_init_79 : decode m_Nd_init.2.1 79 = .ok (.new 23, 3) := by decide +kernel
theorem d_Nd_init_82 : decode m_Nd_init.2.1 82 = .ok (.dup, 1) := by decide +kernel
theorem d_Nd_init_83 : decode m_Nd_init.2.1 83 = .ok (.aload_n 2, 1) := by decide +kernel
theorem d_Nd_init_84 : decode m_Nd_init.2.1 84 = .ok (.iload_n 1, 1) := by decide +kernel
theorem d_Nd_init_85 : decode m_Nd_init.2.1 85 = .ok (.iload 4, 2) := by decide +kernel
theorem d_Nd_init_87 : decode m_Nd_init.2.1 87 = .ok (.iconst 4, 1) := by decide +kernel
theorem d_Nd_init_88 : decode m_Nd_init.2.1 88 = .ok (.idiv, 1) := by decide +kernel
theorem d_Nd_init_89 : decode m_Nd_init.2.1 89 = .ok (.iload 4, 2) := by decide +kernel
theorem d_Nd_init_91 : decode m_Nd_init.2.1 91 = .ok (.iconst 4, 1) := by decide +kernel
theorem d_Nd_init_92 : decode m_Nd_init.2.1 92 = .ok (.irem, 1) := by decide +kernel
theorem d_Nd_init_93 : decode m_Nd_init.2.1 93 = .ok (.invokespecial 46, 3) := by decide +kernel
theorem d_Nd_init_96 : decode m_Nd_init.2.1 96 = .ok (.aastore, 1) := by decide +kernel
theorem d_Nd_init_97 : decode m_Nd_init.2.1 97 = .ok (.aload_n 0, 1) := by decide +kernel
theorem d_Nd_init_98 : decode m_Nd_init.2.1 98 = .ok (.getfield 31, 3) := by decide +kernel
theorem d_Nd_init_101 : decode m_Nd_init.2.1 101 = .ok (.iload 4, 2) := by decide +kernel
theorem d_Nd_init_103 : decode m_Nd_init.2.1 103 = .ok (.new 29, 3) := by decide +kernel
theorem d_Nd_init_106 : decode m_Nd_init.2.1 106 = .ok (.dup, 1) := by decide +kernel
theorem d_Nd_init_107 : decode m_Nd_init.2.1 107 = .ok (.aload_n 2, 1) := by decide +kernel
theorem d_Nd_init_108 : decode m_Nd_init.2.1 108 = .ok (.iload_n 1, 1) := by decide +kernel
theorem d_Nd_init_109 : decode m_Nd_init.2.1 109 = .ok (.iload 4, 2) := by decide +kernel
theorem d_Nd_init_111 : decode m_Nd_init.2.1 111 = .ok (.iconst 4, 1) := by decide +kernel
theorem d_Nd_init_112 : decode m_Nd_init.2.1 112 = .ok (.idiv, 1) := by decide +kernel
theorem d_Nd_init_113 : decode m_Nd_init.2.1 113 = .ok (.iload 4, 2) := by decide +kernel
theorem d_Nd_init_115 : decode m_Nd_init.2.1 115 = .ok (.iconst 4, 1) := by decide +kernel
theorem d_Nd_init_116 : decode m_Nd_init.2.1 116 = .ok (.irem, 1) := by decide +kernel
theorem d_Nd_init_117 : decode m_Nd_init.2.1 117 = .ok (.iload_n 3, 1) := by decide +kernel
theorem d_Nd_init_118 : decode m_Nd_init.2.1 118 = .ok (.invokespecial 49, 3) := by decide +kernel
theorem d_Nd_init_121 : decode m_Nd_init.2.1 121 = .ok (.aastore, 1) := by decide +kernel
theorem d_Nd_init_122 : decode m_Nd_init.2.1 122 = .ok (.iinc 4 1, 3) := by decide +kernel
theorem d_Nd_init_125 : decode m_Nd_init.2.1 125 = .ok (.goto (-59), 3) := by decide +kernel
theorem d_Nd_init_128 : decode m_Nd_init.2.1 128 = .ok (.return_, 1) := by decide +kernel
theorem d_Rw_init_0 : decode m_Rw_init.2.1 0 = .ok (.aload_n 0, 1) := by decide +kernel
theorem d_Rw_init_1 : decode m_Rw_init.2.1 1 = .ok (.invokespecial 3, 3) := by decide +kernel
theorem d_Rw_init_4 : decode m_Rw_init.2.1 4 = .ok (.aload_n 0, 1) := by decide +kernel
theorem d_Rw_init_5 : decode m_Rw_init.2.1 5 = .ok (.iload_n 1, 1) := by decide +kernel
theorem d_Rw_init_6 : decode m_Rw_init.2.1 6 = .ok (.newarray .int, 2) := by decide +kernel
theorem d_Rw_init_8 : decode m_Rw_init.2.1 8 = .ok (.putfield 9, 3) := by decide +kernel
theorem d_Rw_init_11 : decode m_Rw_init.2.1 11 = .ok (.return_, 1) := by decide +kernel
theorem d_Bc_init_0 : decode m_Bc_init.2.1 0 = .ok (.aload_n 0, 1) := by decide +kernel
theorem d_Bc_init_1 : decode m_Bc_init.2.1 1 = .ok (.invokespecial 3, 3) := by decide +kernel
theorem d_Bc_init_4 : decode m_Bc_init.2.1 4 = .ok (.aload_n 0, 1) := by decide +kernel
theorem d_Bc_init_5 : decode m_Bc_init.2.1 5 = .ok (.new 9, 3) := by decide +kernel
theorem d_Bc_init_8 : decode m_Bc_init.2.1 8 = .ok (.dup, 1) := by decide +kernel
theorem d_Bc_init_9 : decode m_Bc_init.2.1 9 = .ok (.invokespecial 11, 3) := by decide +kernel
theorem d_Bc_init_12 : decode m_Bc_init.2.1 12 = .ok (.putfield 12, 3) := by decide +kernel
theorem d_Bc_init_15 : decode m_Bc_init.2.1 15 = .ok (.aload_n 0, 1) := by decide +kernel
theorem d_Bc_init_16 : decode m_Bc_init.2.1 16 = .ok (.iconst 4, 1) := by decide +kernel
theorem d_Bc_init_17 : decode m_Bc_init.2.1 17 = .ok (.newarray .int, 2) := by decide +kernel
theorem d_Bc_init_19 : decode m_Bc_init.2.1 19 = .ok (.putfield 18, 3) := by decide +kernel
theorem d_Bc_init_22 : decode m_Bc_init.2.1 22 = .ok (.aload_n 0, 1) := by decide +kernel
theorem d_Bc_init_23 : decode m_Bc_init.2.1 23 = .ok (.new 9, 3) := by decide +kernel
theorem d_Bc_init_26 : decode m_Bc_init.2.1 26 = .ok (.dup, 1) := by decide +kernel
theorem d_Bc_init_27 : decode m_Bc_init.2.1 27 = .ok (.invokespecial 11, 3) := by decide +kernel
theorem d_Bc_init_30 : decode m_Bc_init.2.1 30 = .ok (.putfield 22, 3) := by decide +kernel
theorem d_Bc_init_33 : decode m_Bc_init.2.1 33 = .ok (.aload_n 0, 1) := by decide +kernel
theorem d_Bc_init_34 : decode m_Bc_init.2.1 34 = .ok (.iconst (-1), 1) := by decide +kernel
theorem d_Bc_init_35 : decode m_Bc_init.2.1 35 = .ok (.putfield 25, 3) := by decide +kernel
theorem d_Bc_init_38 : decode m_Bc_init.2.1 38 = .ok (.aload_n 0, 1) := by decide +kernel
theorem d_Bc_init_39 : decode m_Bc_init.2.1 39 = .ok (.aload_n 1, 1) := by decide +kernel
theorem d_Bc_init_40 : decode m_Bc_init.2.1 40 = .ok (.putfield 29, 3) := by decide +kernel
theorem d_Bc_init_43 : decode m_Bc_init.2.1 43 = .ok (.aload_n 0, 1) := by decide +kernel
theorem d_Bc_init_44 : decode m_Bc_init.2.1 44 = .ok (.iload_n 2, 1) := by decide +kernel
theorem d_Bc_init_45 : decode m_Bc_init.2.1 45 = .ok (.putfield 33, 3) := by decide +kernel
theorem d_Bc_init_48 : decode m_Bc_init.2.1 48 = .ok (.aload_n 0, 1) := by decide +kernel
theorem d_Bc_init_49 : decode m_Bc_init.2.1 49 = .ok (.iload_n 3, 1) := by decide +kernel
theorem d_Bc_init_50 : decode m_Bc_init.2.1 50 = .ok (.putfield 36, 3) := by decide +kernel
theorem d_Bc_init_53 : decode m_Bc_init.2.1 53 = .ok (.aload_n 0, 1) := by decide +kernel
theorem d_Bc_init_54 : decode m_Bc_init.2.1 54 = .ok (.iload 4, 2) := by decide +kernel
theorem d_Bc_init_56 : decode m_Bc_init.2.1 56 = .ok (.putfield 39, 3) := by decide +kernel
theorem d_Bc_init_59 : decode m_Bc_init.2.1 59 = .ok (.return_, 1) := by decide +kernel
theorem d_Rt_init_0 : decode m_Rt_init.2.1 0 = .ok (.aload_n 0, 1) := by decide +kernel
theorem d_Rt_init_1 : decode m_Rt_init.2.1 1 = .ok (.invokespecial 3, 3) := by decide +kernel
theorem d_Rt_init_4 : decode m_Rt_init.2.1 4 = .ok (.aload_n 0, 1) := by decide +kernel
theorem d_Rt_init_5 : decode m_Rt_init.2.1 5 = .ok (.iconst 4, 1) := by decide +kernel
theorem d_Rt_init_6 : decode m_Rt_init.2.1 6 = .ok (.newarray .int, 2) := by decide +kernel
theorem d_Rt_init_8 : decode m_Rt_init.2.1 8 = .ok (.putfield 9, 3) := by decide +kernel
theorem d_Rt_init_11 : decode m_Rt_init.2.1 11 = .ok (.return_, 1) := by decide +kernel
theorem d_Ag_init_0 : decode m_Ag_init.2.1 0 = .ok (.aload_n 0, 1) := by decide +kernel
theorem d_Ag_init_1 : decode m_Ag_init.2.1 1 = .ok (.invokespecial 3, 3) := by decide +kernel
theorem d_Ag_init_4 : decode m_Ag_init.2.1 4 = .ok (.aload_n 0, 1) := by decide +kernel
theorem d_Ag_init_5 : decode m_Ag_init.2.1 5 = .ok (.bipush 12, 2) := by decide +kernel
theorem d_Ag_init_7 : decode m_Ag_init.2.1 7 = .ok (.newarray .int, 2) := by decide +kernel
theorem d_Ag_init_9 : decode m_Ag_init.2.1 9 = .ok (.putfield 9, 3) := by decide +kernel
theorem d_Ag_init_12 : decode m_Ag_init.2.1 12 = .ok (.aload_n 0, 1) := by decide +kernel
theorem d_Ag_init_13 : decode m_Ag_init.2.1 13 = .ok (.bipush 12, 2) := by decide +kernel
theorem d_Ag_init_15 : decode m_Ag_init.2.1 15 = .ok (.newarray .int, 2) := by decide +kernel
theorem d_Ag_init_17 : decode m_Ag_init.2.1 17 = .ok (.putfield 15, 3) := by decide +kernel
theorem d_Ag_init_20 : decode m_Ag_init.2.1 20 = .ok (.aload_n 0, 1) := by decide +kernel
theorem d_Ag_init_21 : decode m_Ag_init.2.1 21 = .ok (.iconst (-1), 1) := by decide +kernel
theorem d_Ag_init_22 : decode m_Ag_init.2.1 22 = .ok (.putfield 18, 3) := by decide +kernel
theorem d_Ag_init_25 : decode m_Ag_init.2.1 25 = .ok (.aload_n 0, 1) := by decide +kernel
theorem d_Ag_init_26 : decode m_Ag_init.2.1 26 = .ok (.iconst (-1), 1) := by decide +kernel
theorem d_Ag_init_27 : decode m_Ag_init.2.1 27 = .ok (.putfield 22, 3) := by decide +kernel
theorem d_Ag_init_30 : decode m_Ag_init.2.1 30 = .ok (.aload_n 0, 1) := by decide +kernel
theorem d_Ag_init_31 : decode m_Ag_init.2.1 31 = .ok (.iconst (-1), 1) := by decide +kernel
theorem d_Ag_init_32 : decode m_Ag_init.2.1 32 = .ok (.putfield 25, 3) := by decide +kernel
theorem d_Ag_init_35 : decode m_Ag_init.2.1 35 = .ok (.aload_n 0, 1) := by decide +kernel
theorem d_Ag_init_36 : decode m_Ag_init.2.1 36 = .ok (.aload_n 1, 1) := by decide +kernel
theorem d_Ag_init_37 : decode m_Ag_init.2.1 37 = .ok (.putfield 28, 3) := by decide +kernel
theorem d_Ag_init_40 : decode m_Ag_init.2.1 40 = .ok (.aload_n 0, 1) := by decide +kernel
theorem d_Ag_init_41 : decode m_Ag_init.2.1 41 = .ok (.iload_n 2, 1) := by decide +kernel
theorem d_Ag_init_42 : decode m_Ag_init.2.1 42 = .ok (.putfield 32, 3) := by decide +kernel
theorem d_Ag_init_45 : decode m_Ag_init.2.1 45 = .ok (.aload_n 0, 1) := by decide +kernel
theorem d_Ag_init_46 : decode m_Ag_init.2.1 46 = .ok (.iload_n 3, 1) := by decide +kernel
theorem d_Ag_init_47 : decode m_Ag_init.2.1 47 = .ok (.putfield 35, 3) := by decide +kernel
theorem d_Ag_init_50 : decode m_Ag_init.2.1 50 = .ok (.aload_n 0, 1) := by decide +kernel
theorem d_Ag_init_51 : decode m_Ag_init.2.1 51 = .ok (.iload 4, 2) := by decide +kernel
theorem d_Ag_init_53 : decode m_Ag_init.2.1 53 = .ok (.putfield 38, 3) := by decide +kernel
theorem d_Ag_init_56 : decode m_Ag_init.2.1 56 = .ok (.aload_n 0, 1) := by decide +kernel
theorem d_Ag_init_57 : decode m_Ag_init.2.1 57 = .ok (.iload 5, 2) := by decide +kernel
theorem d_Ag_init_59 : decode m_Ag_init.2.1 59 = .ok (.putfield 41, 3) := by decide +kernel
theorem d_Ag_init_62 : decode m_Ag_init.2.1 62 = .ok (.return_, 1) := by decide +kernel
theorem d_El_submit_0 : decode m_El_submit.2.1 0 = .ok (.iload_n 1, 1) := by decide +kernel
theorem d_El_submit_1 : decode m_El_submit.2.1 1 = .ok (.invokestatic 30, 3) := by decide +kernel
theorem d_El_submit_4 : decode m_El_submit.2.1 4 = .ok (.ifCond .eq 31, 3) := by decide +kernel
theorem d_El_submit_7 : decode m_El_submit.2.1 7 = .ok (.iload_n 2, 1) := by decide +kernel
theorem d_El_submit_8 : decode m_El_submit.2.1 8 = .ok (.iconst 1, 1) := by decide +kernel
theorem d_El_submit_9 : decode m_El_submit.2.1 9 = .ok (.sipush 255, 3) := by decide +kernel
theorem d_El_submit_12 : decode m_El_submit.2.1 12 = .ok (.invokestatic 34, 3) := by decide +kernel
theorem d_El_submit_15 : decode m_El_submit.2.1 15 = .ok (.ifCond .eq 20, 3) := by decide +kernel
theorem d_El_submit_18 : decode m_El_submit.2.1 18 = .ok (.aload_n 0, 1) := by decide +kernel
theorem d_El_submit_19 : decode m_El_submit.2.1 19 = .ok (.getfield 23, 3) := by decide +kernel
theorem d_El_submit_22 : decode m_El_submit.2.1 22 = .ok (.iload_n 1, 1) := by decide +kernel
theorem d_El_submit_23 : decode m_El_submit.2.1 23 = .ok (.aaload, 1) := by decide +kernel
theorem d_El_submit_24 : decode m_El_submit.2.1 24 = .ok (.iload_n 2, 1) := by decide +kernel
theorem d_El_submit_25 : decode m_El_submit.2.1 25 = .ok (.invokevirtual 38, 3) := by decide +kernel
theorem d_El_submit_28 : decode m_El_submit.2.1 28 = .ok (.ifCond .eq 7, 3) := by decide +kernel
theorem d_El_submit_31 : decode m_El_submit.2.1 31 = .ok (.iconst 1, 1) := by decide +kernel
theorem d_El_submit_32 : decode m_El_submit.2.1 32 = .ok (.goto 4, 3) := by decide +kernel
theorem d_El_submit_35 : decode m_El_submit.2.1 35 = .ok (.iconst 0, 1) := by decide +kernel
theorem d_El_submit_36 : decode m_El_submit.2.1 36 = .ok (.ireturn, 1) := by decide +kernel
theorem d_El_isNode_0 : decode m_El_isNode.2.1 0 = .ok (.iload_n 0, 1) := by decide +kernel
theorem d_El_isNode_1 : decode m_El_isNode.2.1 1 = .ok (.iconst 0, 1) := by decide +kernel
theorem d_El_isNode_2 : decode m_El_isNode.2.1 2 = .ok (.iconst 3, 1) := by decide +kernel
theorem d_El_isNode_3 : decode m_El_isNode.2.1 3 = .ok (.invokestatic 34, 3) := by decide +kernel
theorem d_El_isNode_6 : decode m_El_isNode.2.1 6 = .ok (.ireturn, 1) := by decide +kernel
theorem d_El_isIn_0 : decode m_El_isIn.2.1 0 = .ok (.iload_n 0, 1) := by decide +kernel
theorem d_El_isIn_1 : decode m_El_isIn.2.1 1 = .ok (.iload_n 1, 1) := by decide +kernel
theorem d_El_isIn_2 : decode m_El_isIn.2.1 2 = .ok (.if_icmp .lt 12, 3) := by decide +kernel
theorem d_El_isIn_5 : decode m_El_isIn.2.1 5 = .ok (.iload_n 0, 1) := by decide +kernel
theorem d_El_isIn_6 : decode m_El_isIn.2.1 6 = .ok (.iload_n 2, 1) := by decide +kernel
theorem d_El_isIn_7 : decode m_El_isIn.2.1 7 = .ok (.if_icmp .gt 7, 3) := by decide +kernel
theorem d_El_isIn_10 : decode m_El_isIn.2.1 10 = .ok (.iconst 1, 1) := by decide +kernel
theorem d_El_isIn_11 : decode m_El_isIn.2.1 11 = .ok (.goto 4, 3) := by decide +kernel
theorem d_El_isIn_14 : decode m_El_isIn.2.1 14 = .ok (.iconst 0, 1) := by decide +kernel
theorem d_El_isIn_15 : decode m_El_isIn.2.1 15 = .ok (.ireturn, 1) := by decide +kernel
theorem d_Nd_accept_0 : decode m_Nd_accept.2.1 0 = .ok (.aload_n 0, 1) := by decide +kernel
theorem d_Nd_accept_1 : decode m_Nd_accept.2.1 1 = .ok (.getfield 14, 3) := by decide +kernel
theorem d_Nd_accept_4 : decode m_Nd_accept.2.1 4 = .ok (.invokevirtual 52, 3) := by decide +kernel
theorem d_Nd_accept_7 : decode m_Nd_accept.2.1 7 = .ok (.ifCond .ne 25, 3) := by decide +kernel
theorem d_Nd_accept_10 : decode m_Nd_accept.2.1 10 = .ok (.aload_n 0, 1) := by decide +kernel
theorem d_Nd_accept_11 : decode m_Nd_accept.2.1 11 = .ok (.getfield 14, 3) := by decide +kernel
theorem d_Nd_accept_14 : decode m_Nd_accept.2.1 14 = .ok (.iload_n 1, 1) := by decide +kernel
theorem d_Nd_accept_15 : decode m_Nd_accept.2.1 15 = .ok (.invokevirtual 56, 3) := by decide +kernel
theorem d_Nd_accept_18 : decode m_Nd_accept.2.1 18 = .ok (.ifCond .ne 14, 3) := by decide +kernel
theorem d_Nd_accept_21 : decode m_Nd_accept.2.1 21 = .ok (.aload_n 0, 1) := by decide +kernel
theorem d_Nd_accept_22 : decode m_Nd_accept.2.1 22 = .ok (.getfield 20, 3) := by decide +kernel
theorem d_Nd_accept_25 : decode m_Nd_accept.2.1 25 = .ok (.iload_n 1, 1) := by decide +kernel
theorem d_Nd_accept_26 : decode m_Nd_accept.2.1 26 = .ok (.invokevirtual 56, 3) := by decide +kernel
theorem d_Nd_accept_29 : decode m_Nd_accept.2.1 29 = .ok (.ifCond .eq 5, 3) := by decide +kernel
theorem d_Nd_accept_32 : decode m_Nd_accept.2.1 32 = .ok (.iconst 0, 1) := by decide +kernel
theorem d_Nd_accept_33 : decode m_Nd_accept.2.1 33 = .ok (.ireturn, 1) := by decide +kernel
theorem d_Nd_accept_34 : decode m_Nd_accept.2.1 34 = .ok (.aload_n 0, 1) := by decide +kernel
theorem d_Nd_accept_35 : decode m_Nd_accept.2.1 35 = .ok (.getfield 14, 3) := by decide +kernel
theorem d_Nd_accept_38 : decode m_Nd_accept.2.1 38 = .ok (.iload_n 1, 1) := by decide +kernel
theorem d_Nd_accept_39 : decode m_Nd_accept.2.1 39 = .ok (.invokevirtual 60, 3) := by decide +kernel
theorem d_Nd_accept_42 : decode m_Nd_accept.2.1 42 = .ok (.iconst 1, 1) := by decide +kernel
theorem d_Nd_accept_43 : decode m_Nd_accept.2.1 43 = .ok (.ireturn, 1) := by decide +kernel
theorem d_Rw_isFull_0 : decode m_Rw_isFull.2.1 0 = .ok (.aload_n 0, 1) := by decide +kernel
theorem d_Rw_isFull_1 : decode m_Rw_isFull.2.1 1 = .ok (.getfield 15, 3) := by decide +kernel
theorem d_Rw_isFull_4 : decode m_Rw_isFull.2.1 4 = .ok (.aload_n 0, 1) := by decide +kernel
theorem d_Rw_isFull_5 : decode m_Rw_isFull.2.1 5 = .ok (.getfield 9, 3) := by decide +kernel
theorem d_Rw_isFull_8 : decode m_Rw_isFull.2.1 8 = .ok (.arraylength, 1) := by decide +kernel
theorem d_Rw_isFull_9 : decode m_Rw_isFull.2.1 9 = .ok (.if_icmp .ne 7, 3) := by decide +kernel
theorem d_Rw_isFull_12 : decode m_Rw_isFull.2.1 12 = .ok (.iconst 1, 1) := by decide +kernel
theorem d_Rw_isFull_13 : decode m_Rw_isFull.2.1 13 = .ok (.goto 4, 3) := by decide +kernel
theorem d_Rw_isFull_16 : decode m_Rw_isFull.2.1 16 = .ok (.iconst 0, 1) := by decide +kernel
theorem d_Rw_isFull_17 : decode m_Rw_isFull.2.1 17 = .ok (.ireturn, 1) := by decide +kernel
theorem d_Rw_has_0 : decode m_Rw_has.2.1 0 = .ok (.iconst 0, 1) := by decide +kernel
theorem d_Rw_has_1 : decode m_Rw_has.2.1 1 = .ok (.istore_n 2, 1) := by decide +kernel
theorem d_Rw_has_2 : decode m_Rw_has.2.1 2 = .ok (.iload_n 2, 1) := by decide +kernel
theorem d_Rw_has_3 : decode m_Rw_has.2.1 3 = .ok (.aload_n 0, 1) := by decide +kernel
theorem d_Rw_has_4 : decode m_Rw_has.2.1 4 = .ok (.getfield 15, 3) := by decide +kernel
theorem d_Rw_has_7 : decode m_Rw_has.2.1 7 = .ok (.if_icmp .ge 21, 3) := by decide +kernel
theorem d_Rw_has_10 : decode m_Rw_has.2.1 10 = .ok (.aload_n 0, 1) := by decide +kernel
theorem d_Rw_has_11 : decode m_Rw_has.2.1 11 = .ok (.getfield 9, 3) := by decide +kernel
theorem d_Rw_has_14 : decode m_Rw_has.2.1 14 = .ok (.iload_n 2, 1) := by decide +kernel
theorem d_Rw_has_15 : decode m_Rw_has.2.1 15 = .ok (.iaload, 1) := by decide +kernel
theorem d_Rw_has_16 : decode m_Rw_has.2.1 16 = .ok (.iload_n 1, 1) := by decide +kernel
theorem d_Rw_has_17 : decode m_Rw_has.2.1 17 = .ok (.if_icmp .ne 5, 3) := by decide +kernel
theorem d_Rw_has_20 : decode m_Rw_has.2.1 20 = .ok (.iconst 1, 1) := by decide +kernel
theorem d_Rw_has_21 : decode m_Rw_has.2.1 21 = .ok (.ireturn, 1) := by decide +kernel
theorem d_Rw_has_22 : decode m_Rw_has.2.1 22 = .ok (.iinc 2 1, 3) := by decide +kernel
theorem d_Rw_has_25 : decode m_Rw_has.2.1 25 = .ok (.goto (-23), 3) := by decide +kernel
theorem d_Rw_has_28 : decode m_Rw_has.2.1 28 = .ok (.iconst 0, 1) := by decide +kernel
theorem d_Rw_has_29 : decode m_Rw_has.2.1 29 = .ok (.ireturn, 1) := by decide +kernel
theorem d_Rw_append_0 : decode m_Rw_append.2.1 0 = .ok (.aload_n 0, 1) := by decide +kernel
theorem d_Rw_append_1 : decode m_Rw_append.2.1 1 = .ok (.invokevirtual 19, 3) := by decide +kernel
theorem d_Rw_append_4 : decode m_Rw_append.2.1 4 = .ok (.ifCond .ne 23, 3) := by decide +kernel
theorem d_Rw_append_7 : decode m_Rw_append.2.1 7 = .ok (.aload_n 0, 1) := by decide +kernel
theorem d_Rw_append_8 : decode m_Rw_append.2.1 8 = .ok (.getfield 9, 3) := by decide +kernel
theorem d_Rw_append_11 : decode m_Rw_append.2.1 11 = .ok (.aload_n 0, 1) := by decide +kernel
theorem d_Rw_append_12 : decode m_Rw_append.2.1 12 = .ok (.getfield 15, 3) := by decide +kernel
theorem d_Rw_append_15 : decode m_Rw_append.2.1 15 = .ok (.iload_n 1, 1) := by decide +kernel
theorem d_Rw_append_16 : decode m_Rw_append.2.1 16 = .ok (.iastore, 1) := by decide +kernel
theorem d_Rw_append_17 : decode m_Rw_append.2.1 17 = .ok (.aload_n 0, 1) := by decide +kernel
theorem d_Rw_append_18 : decode m_Rw_append.2.1 18 = .ok (.dup, 1) := by decide +kernel
theorem d_Rw_append_19 : decode m_Rw_append.2.1 19 = .ok (.getfield 15, 3) := by decide +kernel
theorem d_Rw_append_22 : decode m_Rw_append.2.1 22 = .ok (.iconst 1, 1) := by decide +kernel
theorem d_Rw_append_23 : decode m_Rw_append.2.1 23 = .ok (.iadd, 1) := by decide +kernel
theorem d_Rw_append_24 : decode m_Rw_append.2.1 24 = .ok (.putfield 15, 3) := by decide +kernel
theorem d_Rw_append_27 : decode m_Rw_append.2.1 27 = .ok (.return_, 1) := by decide +kernel
theorem d_El_begin_0 : decode m_El_begin.2.1 0 = .ok (.iload_n 1, 1) := by decide +kernel
theorem d_El_begin_1 : decode m_El_begin.2.1 1 = .ok (.invokestatic 30, 3) := by decide +kernel
theorem d_El_begin_4 : decode m_El_begin.2.1 4 = .ok (.ifCond .eq 19, 3) := by decide +kernel
theorem d_El_begin_7 : decode m_El_begin.2.1 7 = .ok (.aload_n 0, 1) := by decide +kernel
theorem d_El_begin_8 : decode m_El_begin.2.1 8 = .ok (.getfield 23, 3) := by decide +kernel
theorem d_El_begin_11 : decode m_El_begin.2.1 11 = .ok (.iload_n 1, 1) := by decide +kernel
theorem d_El_begin_12 : decode m_El_begin.2.1 12 = .ok (.aaload, 1) := by decide +kernel
theorem d_El_begin_13 : decode m_El_begin.2.1 13 = .ok (.invokevirtual 41, 3) := by decide +kernel
theorem d_El_begin_16 : decode m_El_begin.2.1 16 = .ok (.ifCond .eq 7, 3) := by decide +kernel
theorem d_El_begin_19 : decode m_El_begin.2.1 19 = .ok (.iconst 1, 1) := by decide +kernel
theorem d_El_begin_20 : decode m_El_begin.2.1 20 = .ok (.goto 4, 3) := by decide +kernel
theorem d_El_begin_23 : decode m_El_begin.2.1 23 = .ok (.iconst 0, 1) := by decide +kernel
theorem d_El_begin_24 : decode m_El_begin.2.1 24 = .ok (.ireturn, 1) := by decide +kernel
theorem d_Nd_start_0 : decode m_Nd_start.2.1 0 = .ok (.aload_n 0, 1) := by decide +kernel
theorem d_Nd_start_1 : decode m_Nd_start.2.1 1 = .ok (.getfield 35, 3) := by decide +kernel
theorem d_Nd_start_4 : decode m_Nd_start.2.1 4 = .ok (.iconst (-1), 1) := by decide +kernel
theorem d_Nd_start_5 : decode m_Nd_start.2.1 5 = .ok (.if_icmp .ne 10, 3) := by decide +kernel
theorem d_Nd_start_8 : decode m_Nd_start.2.1 8 = .ok (.aload_n 0, 1) := by decide +kernel
theorem d_Nd_start_9 : decode m_Nd_start.2.1 9 = .ok (.getfield 63, 3) := by decide +kernel
theorem d_Nd_start_12 : decode m_Nd_start.2.1 12 = .ok (.ifCond .eq 5, 3) := by decide +kernel
theorem d_Nd_start_15 : decode m_Nd_start.2.1 15 = .ok (.iconst 0, 1) := by decide +kernel
theorem d_Nd_start_16 : decode m_Nd_start.2.1 16 = .ok (.ireturn, 1) := by decide +kernel
theorem d_Nd_start_17 : decode m_Nd_start.2.1 17 = .ok (.aload_n 0, 1) := by decide +kernel
theorem d_Nd_start_18 : decode m_Nd_start.2.1 18 = .ok (.iconst 0, 1) := by decide +kernel
theorem d_Nd_start_19 : decode m_Nd_start.2.1 19 = .ok (.putfield 35, 3) := by decide +kernel
theorem d_Nd_start_22 : decode m_Nd_start.2.1 22 = .ok (.aload_n 0, 1) := by decide +kernel
theorem d_Nd_start_23 : decode m_Nd_start.2.1 23 = .ok (.invokevirtual 67, 3) := by decide +kernel
theorem d_Nd_start_26 : decode m_Nd_start.2.1 26 = .ok (.aload_n 0, 1) := by decide +kernel
theorem d_Nd_start_27 : decode m_Nd_start.2.1 27 = .ok (.iconst 0, 1) := by decide +kernel
theorem d_Nd_start_28 : decode m_Nd_start.2.1 28 = .ok (.iconst 3, 1) := by decide +kernel
theorem d_Nd_start_29 : decode m_Nd_start.2.1 29 = .ok (.invokevirtual 70, 3) := by decide +kernel
theorem d_Nd_start_32 : decode m_Nd_start.2.1 32 = .ok (.iconst 1, 1) := by decide +kernel
theorem d_Nd_start_33 : decode m_Nd_start.2.1 33 = .ok (.ireturn, 1) := by decide +kernel
theorem d_Nd_propose_0 : decode m_Nd_propose.2.1 0 = .ok (.aload_n 0, 1) := by decide +kernel
theorem d_Nd_propose_1 : decode m_Nd_propose.2.1 1 = .ok (.getfield 14, 3) := by decide +kernel
theorem d_Nd_propose_4 : decode m_Nd_propose.2.1 4 = .ok (.iconst 0, 1) := by decide +kernel
theorem d_Nd_propose_5 : decode m_Nd_propose.2.1 5 = .ok (.iconst 0, 1) := by decide +kernel
theorem d_Nd_propose_6 : decode m_Nd_propose.2.1 6 = .ok (.invokevirtual 88, 3) := by decide +kernel
theorem d_Nd_propose_9 : decode m_Nd_propose.2.1 9 = .ok (.aload_n 0, 1) := by decide +kernel
theorem d_Nd_propose_10 : decode m_Nd_propose.2.1 10 = .ok (.getfield 14, 3) := by decide +kernel
theorem d_Nd_propose_13 : decode m_Nd_propose.2.1 13 = .ok (.iconst 1, 1) := by decide +kernel
theorem d_Nd_propose_14 : decode m_Nd_propose.2.1 14 = .ok (.iconst 0, 1) := by decide +kernel
theorem d_Nd_propose_15 : decode m_Nd_propose.2.1 15 = .ok (.invokevirtual 88, 3) := by decide +kernel
theorem d_Nd_propose_18 : decode m_Nd_propose.2.1 18 = .ok (.invokestatic 92, 3) := by decide +kernel
theorem d_Nd_propose_21 : decode m_Nd_propose.2.1 21 = .ok (.istore_n 1, 1) := by decide +kernel
theorem d_Nd_propose_22 : decode m_Nd_propose.2.1 22 = .ok (.iload_n 1, 1) := by decide +kernel
theorem d_Nd_propose_23 : decode m_Nd_propose.2.1 23 = .ok (.invokestatic 97, 3) := by decide +kernel
theorem d_Nd_propose_26 : decode m_Nd_propose.2.1 26 = .ok (.istore_n 2, 1) := by decide +kernel
theorem d_Nd_propose_27 : decode m_Nd_propose.2.1 27 = .ok (.iconst 0, 1) := by decide +kernel
theorem d_Nd_propose_28 : decode m_Nd_propose.2.1 28 = .ok (.istore_n 3, 1) := by decide +kernel
theorem d_Nd_propose_29 : decode m_Nd_propose.2.1 29 = .ok (.iload_n 3, 1) := by decide +kernel
theorem d_Nd_propose_30 : decode m_Nd_propose.2.1 30 = .ok (.iconst 4, 1) := by decide +kernel
theorem d_Nd_propose_31 : decode m_Nd_propose.2.1 31 = .ok (.if_icmp .ge 47, 3) := by decide +kernel
theorem d_Nd_propose_34 : decode m_Nd_propose.2.1 34 = .ok (.iload_n 1, 1) := by decide +kernel
theorem d_Nd_propose_35 : decode m_Nd_propose.2.1 35 = .ok (.iload_n 3, 1) := by decide +kernel
theorem d_Nd_propose_36 : decode m_Nd_propose.2.1 36 = .ok (.invokestatic 101, 3) := by decide +kernel
theorem d_Nd_propose_39 : decode m_Nd_propose.2.1 39 = .ok (.istore 4, 2) := by decide +kernel
theorem d_Nd_propose_41 : decode m_Nd_propose.2.1 41 = .ok (.aload_n 0, 1) := by decide +kernel
theorem d_Nd_propose_42 : decode m_Nd_propose.2.1 42 = .ok (.getfield 42, 3) := by decide +kernel
theorem d_Nd_propose_45 : decode m_Nd_propose.2.1 45 = .ok (.iload_n 3, 1) := by decide +kernel
theorem d_Nd_propose_46 : decode m_Nd_propose.2.1 46 = .ok (.new 75, 3) := by decide +kernel
theorem d_Nd_propose_49 : decode m_Nd_propose.2.1 49 = .ok (.dup, 1) := by decide +kernel
theorem d_Nd_propose_50 : decode m_Nd_propose.2.1 50 = .ok (.aload_n 0, 1) := by decide +kernel
theorem d_Nd_propose_51 : decode m_Nd_propose.2.1 51 = .ok (.getfield 39, 3) := by decide +kernel
theorem d_Nd_propose_54 : decode m_Nd_propose.2.1 54 = .ok (.aload_n 0, 1) := by decide +kernel
theorem d_Nd_propose_55 : decode m_Nd_propose.2.1 55 = .ok (.getfield 35, 3) := by decide +kernel
theorem d_Nd_propose_58 : decode m_Nd_propose.2.1 58 = .ok (.aload_n 0, 1) := by decide +kernel
theorem d_Nd_propose_59 : decode m_Nd_propose.2.1 59 = .ok (.getfield 39, 3) := by decide +kernel
theorem d_Nd_propose_62 : decode m_Nd_propose.2.1 62 = .ok (.iconst 0, 1) := by decide +kernel
theorem d_Nd_propose_63 : decode m_Nd_propose.2.1 63 = .ok (.iload_n 2, 1) := by decide +kernel
theorem d_Nd_propose_64 : decode m_Nd_propose.2.1 64 = .ok (.iload 4, 2) := by decide +kernel
theorem d_Nd_propose_66 : decode m_Nd_propose.2.1 66 = .ok (.invokespecial 104, 3) := by decide +kernel
theorem d_Nd_propose_69 : decode m_Nd_propose.2.1 69 = .ok (.invokevirtual 107, 3) := by decide +kernel
theorem d_Nd_propose_72 : decode m_Nd_propose.2.1 72 = .ok (.iinc 3 1, 3) := by decide +kernel
theorem d_Nd_propose_75 : decode m_Nd_propose.2.1 75 = .ok (.goto (-46), 3) := by decide +kernel
theorem d_Nd_propose_78 : decode m_Nd_propose.2.1 78 = .ok (.return_, 1) := by decide +kernel
theorem d_Rw_itemOr_0 : decode m_Rw_itemOr.2.1 0 = .ok (.iload_n 1, 1) := by decide +kernel
theorem d_Rw_itemOr_1 : decode m_Rw_itemOr.2.1 1 = .ok (.iconst 0, 1) := by decide +kernel
theorem d_Rw_itemOr_2 : decode m_Rw_itemOr.2.1 2 = .ok (.aload_n 0, 1) := by decide +kernel
theorem d_Rw_itemOr_3 : decode m_Rw_itemOr.2.1 3 = .ok (.getfield 15, 3) := by decide +kernel
theorem d_Rw_itemOr_6 : decode m_Rw_itemOr.2.1 6 = .ok (.iconst 1, 1) := by decide +kernel
theorem d_Rw_itemOr_7 : decode m_Rw_itemOr.2.1 7 = .ok (.isub, 1) := by decide +kernel
theorem d_Rw_itemOr_8 : decode m_Rw_itemOr.2.1 8 = .ok (.invokestatic 23, 3) := by decide +kernel
theorem d_Rw_itemOr_11 : decode m_Rw_itemOr.2.1 11 = .ok (.ifCond .eq 12, 3) := by decide +kernel
theorem d_Rw_itemOr_14 : decode m_Rw_itemOr.2.1 14 = .ok (.aload_n 0, 1) := by decide +kernel
theorem d_Rw_itemOr_15 : decode m_Rw_itemOr.2.1 15 = .ok (.getfield 9, 3) := by decide +kernel
theorem d_Rw_itemOr_18 : decode m_Rw_itemOr.2.1 18 = .ok (.iload_n 1, 1) := by decide +kernel
theorem d_Rw_itemOr_19 : decode m_Rw_itemOr.2.1 19 = .ok (.iaload, 1) := by decide +kernel
theorem d_Rw_itemOr_20 : decode m_Rw_itemOr.2.1 20 = .ok (.goto 4, 3) := by decide +kernel
theorem d_Rw_itemOr_23 : decode m_Rw_itemOr.2.1 23 = .ok (.iload_n 2, 1) := by decide +kernel
theorem d_Rw_itemOr_24 : decode m_Rw_itemOr.2.1 24 = .ok (.ireturn, 1) := by decide +kernel
theorem d_Co_proposal_0 : decode m_Co_proposal.2.1 0 = .ok (.iload_n 0, 1) := by decide +kernel
theorem d_Co_proposal_1 : decode m_Co_proposal.2.1 1 = .ok (.sipush 256, 3) := by decide +kernel
theorem d_Co_proposal_4 : decode m_Co_proposal.2.1 4 = .ok (.iload_n 1, 1) := by decide +kernel
theorem d_Co_proposal_5 : decode m_Co_proposal.2.1 5 = .ok (.imul, 1) := by decide +kernel
theorem d_Co_proposal_6 : decode m_Co_proposal.2.1 6 = .ok (.iadd, 1) := by decide +kernel
theorem d_Co_proposal_7 : decode m_Co_proposal.2.1 7 = .ok (.ireturn, 1) := by decide +kernel
theorem d_Co_rootOf_0 : decode m_Co_rootOf.2.1 0 = .ok (.iload_n 0, 1) := by decide +kernel
theorem d_Co_rootOf_1 : decode m_Co_rootOf.2.1 1 = .ok (.sipush 255, 3) := by decide +kernel
theorem d_Co_rootOf_4 : decode m_Co_rootOf.2.1 4 = .ok (.iand, 1) := by decide +kernel
theorem d_Co_rootOf_5 : decode m_Co_rootOf.2.1 5 = .ok (.istore_n 1, 1) := by decide +kernel
theorem d_Co_rootOf_6 : decode m_Co_rootOf.2.1 6 = .ok (.iload_n 1, 1) := by decide +kernel
theorem d_Co_rootOf_7 : decode m_Co_rootOf.2.1 7 = .ok (.iload_n 0, 1) := by decide +kernel
theorem d_Co_rootOf_8 : decode m_Co_rootOf.2.1 8 = .ok (.bipush 8, 2) := by decide +kernel
theorem d_Co_rootOf_10 : decode m_Co_rootOf.2.1 10 = .ok (.ishr, 1) := by decide +kernel
theorem d_Co_rootOf_11 : decode m_Co_rootOf.2.1 11 = .ok (.sipush 255, 3) := by decide +kernel
theorem d_Co_rootOf_14 : decode m_Co_rootOf.2.1 14 = .ok (.iand, 1) := by decide +kernel
theorem d_Co_rootOf_15 : decode m_Co_rootOf.2.1 15 = .ok (.ixor, 1) := by decide +kernel
theorem d_Co_rootOf_16 : decode m_Co_rootOf.2.1 16 = .ok (.istore_n 2, 1) := by decide +kernel
theorem d_Co_rootOf_17 : decode m_Co_rootOf.2.1 17 = .ok (.iconst 0, 1) := by decide +kernel
theorem d_Co_rootOf_18 : decode m_Co_rootOf.2.1 18 = .ok (.iload_n 1, 1) := by decide +kernel
theorem d_Co_rootOf_19 : decode m_Co_rootOf.2.1 19 = .ok (.invokestatic 17, 3) := by decide +kernel
theorem d_Co_rootOf_22 : decode m_Co_rootOf.2.1 22 = .ok (.iconst 1, 1) := by decide +kernel
theorem d_Co_rootOf_23 : decode m_Co_rootOf.2.1 23 = .ok (.iload_n 1, 1) := by decide +kernel
theorem d_Co_rootOf_24 : decode m_Co_rootOf.2.1 24 = .ok (.iload_n 2, 1) := by decide +kernel
theorem d_Co_rootOf_25 : decode m_Co_rootOf.2.1 25 = .ok (.ixor, 1) := by decide +kernel
theorem d_Co_rootOf_26 : decode m_Co_rootOf.2.1 26 = .ok (.invokestatic 17, 3) := by decide +kernel
theorem d_Co_rootOf_29 : decode m_Co_rootOf.2.1 29 = .ok (.invokestatic 20, 3) := by decide +kernel
theorem d_Co_rootOf_32 : decode m_Co_rootOf.2.1 32 = .ok (.istore_n 3, 1) := by decide +kernel
theorem d_Co_rootOf_33 : decode m_Co_rootOf.2.1 33 = .ok (.iconst 2, 1) := by decide +kernel
theorem d_Co_rootOf_34 : decode m_Co_rootOf.2.1 34 = .ok (.iload_n 1, 1) := by decide +kernel
theorem d_Co_rootOf_35 : decode m_Co_rootOf.2.1 35 = .ok (.iconst 2, 1) := by decide +kernel
theorem d_Co_rootOf_36 : decode m_Co_rootOf.2.1 36 = .ok (.iload_n 2, 1) := by decide +kernel
theorem d_Co_rootOf_37 : decode m_Co_rootOf.2.1 37 = .ok (.invokestatic 11, 3) := by decide +kernel
theorem d_Co_rootOf_40 : decode m_Co_rootOf.2.1 40 = .ok (.ixor, 1) := by decide +kernel
theorem d_Co_rootOf_41 : decode m_Co_rootOf.2.1 41 = .ok (.invokestatic 17, 3) := by decide +kernel
theorem d_Co_rootOf_44 : decode m_Co_rootOf.2.1 44 = .ok (.iconst 3, 1) := by decide +kernel
theorem d_Co_rootOf_45 : decode m_Co_rootOf.2.1 45 = .ok (.iload_n 1, 1) := by decide +kernel
theorem d_Co_rootOf_46 : decode m_Co_rootOf.2.1 46 = .ok (.iconst 3, 1) := by decide +kernel
theorem d_Co_rootOf_47 : decode m_Co_rootOf.2.1 47 = .ok (.iload_n 2, 1) := by decide +kernel
theorem d_Co_rootOf_48 : decode m_Co_rootOf.2.1 48 = .ok (.invokestatic 11, 3) := by decide +kernel
theorem d_Co_rootOf_51 : decode m_Co_rootOf.2.1 51 = .ok (.ixor, 1) := by decide +kernel
theorem d_Co_rootOf_52 : decode m_Co_rootOf.2.1 52 = .ok (.invokestatic 17, 3) := by decide +kernel
theorem d_Co_rootOf_55 : decode m_Co_rootOf.2.1 55 = .ok (.invokestatic 20, 3) := by decide +kernel
theorem d_Co_rootOf_58 : decode m_Co_rootOf.2.1 58 = .ok (.istore 4, 2) := by decide +kernel
theorem d_Co_rootOf_60 : decode m_Co_rootOf.2.1 60 = .ok (.iload_n 3, 1) := by decide +kernel
theorem d_Co_rootOf_61 : decode m_Co_rootOf.2.1 61 = .ok (.iload 4, 2) := by decide +kernel
theorem d_Co_rootOf_63 : decode m_Co_rootOf.2.1 63 = .ok (.invokestatic 23, 3) := by decide +kernel
theorem d_Co_rootOf_66 : decode m_Co_rootOf.2.1 66 = .ok (.ireturn, 1) := by decide +kernel
theorem d_Co_leafOf_0 : decode m_Co_leafOf.2.1 0 = .ok (.iload_n 1, 1) := by decide +kernel
theorem d_Co_leafOf_1 : decode m_Co_leafOf.2.1 1 = .ok (.sipush 167, 3) := by decide +kernel
theorem d_Co_leafOf_4 : decode m_Co_leafOf.2.1 4 = .ok (.imul, 1) := by decide +kernel
theorem d_Co_leafOf_5 : decode m_Co_leafOf.2.1 5 = .ok (.bipush 59, 2) := by decide +kernel
theorem d_Co_leafOf_7 : decode m_Co_leafOf.2.1 7 = .ok (.iload_n 0, 1) := by decide +kernel
theorem d_Co_leafOf_8 : decode m_Co_leafOf.2.1 8 = .ok (.imul, 1) := by decide +kernel
theorem d_Co_leafOf_9 : decode m_Co_leafOf.2.1 9 = .ok (.iadd, 1) := by decide +kernel
theorem d_Co_leafOf_10 : decode m_Co_leafOf.2.1 10 = .ok (.sipush 255, 3) := by decide +kernel
theorem d_Co_leafOf_13 : decode m_Co_leafOf.2.1 13 = .ok (.iand, 1) := by decide +kernel
theorem d_Co_leafOf_14 : decode m_Co_leafOf.2.1 14 = .ok (.ireturn, 1) := by decide +kernel
theorem d_Co_halfOf_0 : decode m_Co_halfOf.2.1 0 = .ok (.sipush 256, 3) := by decide +kernel
theorem d_Co_halfOf_3 : decode m_Co_halfOf.2.1 3 = .ok (.iload_n 0, 1) := by decide +kernel
theorem d_Co_halfOf_4 : decode m_Co_halfOf.2.1 4 = .ok (.imul, 1) := by decide +kernel
theorem d_Co_halfOf_5 : decode m_Co_halfOf.2.1 5 = .ok (.iload_n 1, 1) := by decide +kernel
theorem d_Co_halfOf_6 : decode m_Co_halfOf.2.1 6 = .ok (.iadd, 1) := by decide +kernel
theorem d_Co_halfOf_7 : decode m_Co_halfOf.2.1 7 = .ok (.ldc 7, 2) := by decide +kernel
theorem d_Co_halfOf_9 : decode m_Co_halfOf.2.1 9 = .ok (.imul, 1) := by decide +kernel
theorem d_Co_halfOf_10 : decode m_Co_halfOf.2.1 10 = .ok (.sipush 977, 3) := by decide +kernel
theorem d_Co_halfOf_13 : decode m_Co_halfOf.2.1 13 = .ok (.iadd, 1) := by decide +kernel
theorem d_Co_halfOf_14 : decode m_Co_halfOf.2.1 14 = .ok (.ldc 8, 2) := by decide +kernel
theorem d_Co_halfOf_16 : decode m_Co_halfOf.2.1 16 = .ok (.iand, 1) := by decide +kernel
theorem d_Co_halfOf_17 : decode m_Co_halfOf.2.1 17 = .ok (.ireturn, 1) := by decide +kernel
theorem d_Co_product_0 : decode m_Co_product.2.1 0 = .ok (.iconst 0, 1) := by decide +kernel
theorem d_Co_product_1 : decode m_Co_product.2.1 1 = .ok (.istore_n 2, 1) := by decide +kernel
theorem d_Co_product_2 : decode m_Co_product.2.1 2 = .ok (.iload_n 1, 1) := by decide +kernel
theorem d_Co_product_3 : decode m_Co_product.2.1 3 = .ok (.istore_n 3, 1) := by decide +kernel
theorem d_Co_product_4 : decode m_Co_product.2.1 4 = .ok (.iconst 0, 1) := by decide +kernel
theorem d_Co_product_5 : decode m_Co_product.2.1 5 = .ok (.istore 4, 2) := by decide +kernel
theorem d_Co_product_7 : decode m_Co_product.2.1 7 = .ok (.iload 4, 2) := by decide +kernel
theorem d_Co_product_9 : decode m_Co_product.2.1 9 = .ok (.bipush 8, 2) := by decide +kernel
theorem d_Co_product_11 : decode m_Co_product.2.1 11 = .ok (.if_icmp .ge 46, 3) := by decide +kernel
theorem d_Co_product_14 : decode m_Co_product.2.1 14 = .ok (.iload_n 0, 1) := by decide +kernel
theorem d_Co_product_15 : decode m_Co_product.2.1 15 = .ok (.iload 4, 2) := by decide +kernel
theorem d_Co_product_17 : decode m_Co_product.2.1 17 = .ok (.ishr, 1) := by decide +kernel
theorem d_Co_product_18 : decode m_Co_product.2.1 18 = .ok (.iconst 1, 1) := by decide +kernel
theorem d_Co_product_19 : decode m_Co_product.2.1 19 = .ok (.iand, 1) := by decide +kernel
theorem d_Co_product_20 : decode m_Co_product.2.1 20 = .ok (.iconst 1, 1) := by decide +kernel
theorem d_Co_product_21 : decode m_Co_product.2.1 21 = .ok (.if_icmp .ne 7, 3) := by decide +kernel
theorem d_Co_product_24 : decode m_Co_product.2.1 24 = .ok (.iload_n 2, 1) := by decide +kernel
theorem d_Co_product_25 : decode m_Co_product.2.1 25 = .ok (.iload_n 3, 1) := by decide +kernel
theorem d_Co_product_26 : decode m_Co_product.2.1 26 = .ok (.ixor, 1) := by decide +kernel
theorem d_Co_product_27 : decode m_Co_product.2.1 27 = .ok (.istore_n 2, 1) := by decide +kernel
theorem d_Co_product_28 : decode m_Co_product.2.1 28 = .ok (.iload_n 3, 1) := by decide +kernel
theorem d_Co_product_29 : decode m_Co_product.2.1 29 = .ok (.bipush 127, 2) := by decide +kernel
theorem d_Co_product_31 : decode m_Co_product.2.1 31 = .ok (.if_icmp .le 16, 3) := by decide +kernel
theorem d_Co_product_34 : decode m_Co_product.2.1 34 = .ok (.iload_n 3, 1) := by decide +kernel
theorem d_Co_product_35 : decode m_Co_product.2.1 35 = .ok (.iconst 2, 1) := by decide +kernel
theorem d_Co_product_36 : decode m_Co_product.2.1 36 = .ok (.imul, 1) := by decide +kernel
theorem d_Co_product_37 : decode m_Co_product.2.1 37 = .ok (.bipush 27, 2) := by decide +kernel
theorem d_Co_product_39 : decode m_Co_product.2.1 39 = .ok (.ixor, 1) := by decide +kernel
theorem d_Co_product_40 : decode m_Co_product.2.1 40 = .ok (.sipush 255, 3) := by decide +kernel
theorem d_Co_product_43 : decode m_Co_product.2.1 43 = .ok (.iand, 1) := by decide +kernel
theorem d_Co_product_44 : decode m_Co_product.2.1 44 = .ok (.goto 6, 3) := by decide +kernel
theorem d_Co_product_47 : decode m_Co_product.2.1 47 = .ok (.iload_n 3, 1) := by decide +kernel
theorem d_Co_product_48 : decode m_Co_product.2.1 48 = .ok (.iconst 2, 1) := by decide +kernel
theorem d_Co_product_49 : decode m_Co_product.2.1 49 = .ok (.imul, 1) := by decide +kernel
theorem d_Co_product_50 : decode m_Co_product.2.1 50 = .ok (.istore_n 3, 1) := by decide +kernel
theorem d_Co_product_51 : decode m_Co_product.2.1 51 = .ok (.iinc 4 1, 3) := by decide +kernel
theorem d_Co_product_54 : decode m_Co_product.2.1 54 = .ok (.goto (-47), 3) := by decide +kernel
theorem d_Co_product_57 : decode m_Co_product.2.1 57 = .ok (.iload_n 2, 1) := by decide +kernel
theorem d_Co_product_58 : decode m_Co_product.2.1 58 = .ok (.ireturn, 1) := by decide +kernel
theorem d_Co_topOf_0 : decode m_Co_topOf.2.1 0 = .ok (.ldc 9, 2) := by decide +kernel
theorem d_Co_topOf_2 : decode m_Co_topOf.2.1 2 = .ok (.iload_n 0, 1) := by decide +kernel
theorem d_Co_topOf_3 : decode m_Co_topOf.2.1 3 = .ok (.imul, 1) := by decide +kernel
theorem d_Co_topOf_4 : decode m_Co_topOf.2.1 4 = .ok (.iload_n 1, 1) := by decide +kernel
theorem d_Co_topOf_5 : decode m_Co_topOf.2.1 5 = .ok (.iadd, 1) := by decide +kernel
theorem d_Co_topOf_6 : decode m_Co_topOf.2.1 6 = .ok (.ldc 10, 2) := by decide +kernel
theorem d_Co_topOf_8 : decode m_Co_topOf.2.1 8 = .ok (.imul, 1) := by decide +kernel
theorem d_Co_topOf_9 : decode m_Co_topOf.2.1 9 = .ok (.bipush 7, 2) := by decide +kernel
theorem d_Co_topOf_11 : decode m_Co_topOf.2.1 11 = .ok (.iadd, 1) := by decide +kernel
theorem d_Co_topOf_12 : decode m_Co_topOf.2.1 12 = .ok (.ireturn, 1) := by decide +kernel
theorem d_Co_witnessOf_0 : decode m_Co_witnessOf.2.1 0 = .ok (.iload_n 1, 1) := by decide +kernel
theorem d_Co_witnessOf_1 : decode m_Co_witnessOf.2.1 1 = .ok (.iconst 1, 1) := by decide +kernel
theorem d_Co_witnessOf_2 : decode m_Co_witnessOf.2.1 2 = .ok (.ixor, 1) := by decide +kernel
theorem d_Co_witnessOf_3 : decode m_Co_witnessOf.2.1 3 = .ok (.iload_n 0, 1) := by decide +kernel
theorem d_Co_witnessOf_4 : decode m_Co_witnessOf.2.1 4 = .ok (.iload_n 1, 1) := by decide +kernel
theorem d_Co_witnessOf_5 : decode m_Co_witnessOf.2.1 5 = .ok (.iconst 1, 1) := by decide +kernel
theorem d_Co_witnessOf_6 : decode m_Co_witnessOf.2.1 6 = .ok (.ixor, 1) := by decide +kernel
theorem d_Co_witnessOf_7 : decode m_Co_witnessOf.2.1 7 = .ok (.invokestatic 26, 3) := by decide +kernel
theorem d_Co_witnessOf_10 : decode m_Co_witnessOf.2.1 10 = .ok (.invokestatic 17, 3) := by decide +kernel
theorem d_Co_witnessOf_13 : decode m_Co_witnessOf.2.1 13 = .ok (.istore_n 2, 1) := by decide +kernel
theorem d_Co_witnessOf_14 : decode m_Co_witnessOf.2.1 14 = .ok (.iload_n 1, 1) := by decide +kernel
theorem d_Co_witnessOf_15 : decode m_Co_witnessOf.2.1 15 = .ok (.iconst 2, 1) := by decide +kernel
theorem d_Co_witnessOf_16 : decode m_Co_witnessOf.2.1 16 = .ok (.if_icmp .ge 7, 3) := by decide +kernel
theorem d_Co_witnessOf_19 : decode m_Co_witnessOf.2.1 19 = .ok (.iconst 2, 1) := by decide +kernel
theorem d_Co_witnessOf_20 : decode m_Co_witnessOf.2.1 20 = .ok (.goto 4, 3) := by decide +kernel
theorem d_Co_witnessOf_23 : decode m_Co_witnessOf.2.1 23 = .ok (.iconst 0, 1) := by decide +kernel
theorem d_Co_witnessOf_24 : decode m_Co_witnessOf.2.1 24 = .ok (.istore_n 3, 1) := by decide +kernel
theorem d_Co_witnessOf_25 : decode m_Co_witnessOf.2.1 25 = .ok (.iload_n 3, 1) := by decide +kernel
theorem d_Co_witnessOf_26 : decode m_Co_witnessOf.2.1 26 = .ok (.iload_n 0, 1) := by decide +kernel
theorem d_Co_witnessOf_27 : decode m_Co_witnessOf.2.1 27 = .ok (.iload_n 3, 1) := by decide +kernel
theorem d_Co_witnessOf_28 : decode m_Co_witnessOf.2.1 28 = .ok (.invokestatic 26, 3) := by decide +kernel
theorem d_Co_witnessOf_31 : decode m_Co_witnessOf.2.1 31 = .ok (.invokestatic 17, 3) := by decide +kernel
theorem d_Co_witnessOf_34 : decode m_Co_witnessOf.2.1 34 = .ok (.iload_n 3, 1) := by decide +kernel
theorem d_Co_witnessOf_35 : decode m_Co_witnessOf.2.1 35 = .ok (.iconst 1, 1) := by decide +kernel
theorem d_Co_witnessOf_36 : decode m_Co_witnessOf.2.1 36 = .ok (.iadd, 1) := by decide +kernel
theorem d_Co_witnessOf_37 : decode m_Co_witnessOf.2.1 37 = .ok (.iload_n 0, 1) := by decide +kernel
theorem d_Co_witnessOf_38 : decode m_Co_witnessOf.2.1 38 = .ok (.iload_n 3, 1) := by decide +kernel
theorem d_Co_witnessOf_39 : decode m_Co_witnessOf.2.1 39 = .ok (.iconst 1, 1) := by decide +kernel
theorem d_Co_witnessOf_40 : decode m_Co_witnessOf.2.1 40 = .ok (.iadd, 1) := by decide +kernel
theorem d_Co_witnessOf_41 : decode m_Co_witnessOf.2.1 41 = .ok (.invokestatic 26, 3) := by decide +kernel
theorem d_Co_witnessOf_44 : decode m_Co_witnessOf.2.1 44 = .ok (.invokestatic 17, 3) := by decide +kernel
theorem d_Co_witnessOf_47 : decode m_Co_witnessOf.2.1 47 = .ok (.invokestatic 20, 3) := by decide +kernel
theorem d_Co_witnessOf_50 : decode m_Co_witnessOf.2.1 50 = .ok (.istore 4, 2) := by decide +kernel
theorem d_Co_witnessOf_52 : decode m_Co_witnessOf.2.1 52 = .ok (.iload_n 0, 1) := by decide +kernel
theorem d_Co_witnessOf_53 : decode m_Co_witnessOf.2.1 53 = .ok (.iload_n 1, 1) := by decide +kernel
theorem d_Co_witnessOf_54 : decode m_Co_witnessOf.2.1 54 = .ok (.invokestatic 26, 3) := by decide +kernel
theorem d_Co_witnessOf_57 : decode m_Co_witnessOf.2.1 57 = .ok (.sipush 256, 3) := by decide +kernel
theorem d_Co_witnessOf_60 : decode m_Co_witnessOf.2.1 60 = .ok (.iload_n 2, 1) := by decide +kernel
theorem d_Co_witnessOf_61 : decode m_Co_witnessOf.2.1 61 = .ok (.imul, 1) := by decide +kernel
theorem d_Co_witnessOf_62 : decode m_Co_witnessOf.2.1 62 = .ok (.iadd, 1) := by decide +kernel
theorem d_Co_witnessOf_63 : decode m_Co_witnessOf.2.1 63 = .ok (.ldc 9, 2) := by decide +kernel
theorem d_Co_witnessOf_65 : decode m_Co_witnessOf.2.1 65 = .ok (.iload 4, 2) := by decide +kernel
theorem d_Co_witnessOf_67 : decode m_Co_witnessOf.2.1 67 = .ok (.imul, 1) := by decide +kernel
theorem d_Co_witnessOf_68 : decode m_Co_witnessOf.2.1 68 = .ok (.iadd, 1) := by decide +kernel
theorem d_Co_witnessOf_69 : decode m_Co_witnessOf.2.1 69 = .ok (.ireturn, 1) := by decide +kernel
theorem d_Co_partOf_0 : decode m_Co_partOf.2.1 0 = .ok (.iload_n 0, 1) := by decide +kernel
theorem d_Co_partOf_1 : decode m_Co_partOf.2.1 1 = .ok (.sipush 255, 3) := by decide +kernel
theorem d_Co_partOf_4 : decode m_Co_partOf.2.1 4 = .ok (.iand, 1) := by decide +kernel
theorem d_Co_partOf_5 : decode m_Co_partOf.2.1 5 = .ok (.istore_n 2, 1) := by decide +kernel
theorem d_Co_partOf_6 : decode m_Co_partOf.2.1 6 = .ok (.iload_n 0, 1) := by decide +kernel
theorem d_Co_partOf_7 : decode m_Co_partOf.2.1 7 = .ok (.bipush 8, 2) := by decide +kernel
theorem d_Co_partOf_9 : decode m_Co_partOf.2.1 9 = .ok (.ishr, 1) := by decide +kernel
theorem d_Co_partOf_10 : decode m_Co_partOf.2.1 10 = .ok (.sipush 255, 3) := by decide +kernel
theorem d_Co_partOf_13 : decode m_Co_partOf.2.1 13 = .ok (.iand, 1) := by decide +kernel
theorem d_Co_partOf_14 : decode m_Co_partOf.2.1 14 = .ok (.istore_n 3, 1) := by decide +kernel
theorem d_Co_partOf_15 : decode m_Co_partOf.2.1 15 = .ok (.iload_n 2, 1) := by decide +kernel
theorem d_Co_partOf_16 : decode m_Co_partOf.2.1 16 = .ok (.iload_n 1, 1) := by decide +kernel
theorem d_Co_partOf_17 : decode m_Co_partOf.2.1 17 = .ok (.iload_n 2, 1) := by decide +kernel
theorem d_Co_partOf_18 : decode m_Co_partOf.2.1 18 = .ok (.iload_n 3, 1) := by decide +kernel
theorem d_Co_partOf_19 : decode m_Co_partOf.2.1 19 = .ok (.ixor, 1) := by decide +kernel
theorem d_Co_partOf_20 : decode m_Co_partOf.2.1 20 = .ok (.invokestatic 11, 3) := by decide +kernel
theorem d_Co_partOf_23 : decode m_Co_partOf.2.1 23 = .ok (.ixor, 1) := by decide +kernel
theorem d_Co_partOf_24 : decode m_Co_partOf.2.1 24 = .ok (.ireturn, 1) := by decide +kernel
theorem d_Ms_init_0 : decode m_Ms_init.2.1 0 = .ok (.aload_n 0, 1) := by decide +kernel
theorem d_Ms_init_1 : decode m_Ms_init.2.1 1 = .ok (.invokespecial 1, 3) := by decide +kernel
theorem d_Ms_init_4 : decode m_Ms_init.2.1 4 = .ok (.aload_n 0, 1) := by decide +kernel
theorem d_Ms_init_5 : decode m_Ms_init.2.1 5 = .ok (.iload_n 1, 1) := by decide +kernel
theorem d_Ms_init_6 : decode m_Ms_init.2.1 6 = .ok (.putfield 7, 3) := by decide +kernel
theorem d_Ms_init_9 : decode m_Ms_init.2.1 9 = .ok (.aload_n 0, 1) := by decide +kernel
theorem d_Ms_init_10 : decode m_Ms_init.2.1 10 = .ok (.iload_n 2, 1) := by decide +kernel
theorem d_Ms_init_11 : decode m_Ms_init.2.1 11 = .ok (.putfield 13, 3) := by decide +kernel
theorem d_Ms_init_14 : decode m_Ms_init.2.1 14 = .ok (.aload_n 0, 1) := by decide +kernel
theorem d_Ms_init_15 : decode m_Ms_init.2.1 15 = .ok (.iload_n 3, 1) := by decide +kernel
theorem d_Ms_init_16 : decode m_Ms_init.2.1 16 = .ok (.putfield 16, 3) := by decide +kernel
theorem d_Ms_init_19 : decode m_Ms_init.2.1 19 = .ok (.aload_n 0, 1) := by decide +kernel
theorem d_Ms_init_20 : decode m_Ms_init.2.1 20 = .ok (.iload 4, 2) := by decide +kernel
theorem d_Ms_init_22 : decode m_Ms_init.2.1 22 = .ok (.putfield 19, 3) := by decide +kernel
theorem d_Ms_init_25 : decode m_Ms_init.2.1 25 = .ok (.aload_n 0, 1) := by decide +kernel
theorem d_Ms_init_26 : decode m_Ms_init.2.1 26 = .ok (.iload 5, 2) := by decide +kernel
theorem d_Ms_init_28 : decode m_Ms_init.2.1 28 = .ok (.putfield 22, 3) := by decide +kernel
theorem d_Ms_init_31 : decode m_Ms_init.2.1 31 = .ok (.aload_n 0, 1) := by decide +kernel
theorem d_Ms_init_32 : decode m_Ms_init.2.1 32 = .ok (.iload 6, 2) := by decide +kernel
theorem d_Ms_init_34 : decode m_Ms_init.2.1 34 = .ok (.putfield 25, 3) := by decide +kernel
theorem d_Ms_init_37 : decode m_Ms_init.2.1 37 = .ok (.return_, 1) := by decide +kernel
theorem d_Nt_sendToOne_0 : decode m_Nt_sendToOne.2.1 0 = .ok (.aload_n 0, 1) := by decide +kernel
theorem d_Nt_sendToOne_1 : decode m_Nt_sendToOne.2.1 1 = .ok (.getfield 11, 3) := by decide +kernel
theorem d_Nt_sendToOne_4 : decode m_Nt_sendToOne.2.1 4 = .ok (.iload_n 1, 1) := by decide +kernel
theorem d_Nt_sendToOne_5 : decode m_Nt_sendToOne.2.1 5 = .ok (.aaload, 1) := by decide +kernel
theorem d_Nt_sendToOne_6 : decode m_Nt_sendToOne.2.1 6 = .ok (.getfield 18, 3) := by decide +kernel
theorem d_Nt_sendToOne_9 : decode m_Nt_sendToOne.2.1 9 = .ok (.aload_n 2, 1) := by decide +kernel
theorem d_Nt_sendToOne_10 : decode m_Nt_sendToOne.2.1 10 = .ok (.invokevirtual 22, 3) := by decide +kernel
theorem d_Nt_sendToOne_13 : decode m_Nt_sendToOne.2.1 13 = .ok (.pop, 1) := by decide +kernel
theorem d_Nt_sendToOne_14 : decode m_Nt_sendToOne.2.1 14 = .ok (.return_, 1) := by decide +kernel
theorem d_Al_add_0 : decode m_Al_add.2.1 0 = .ok (.aload_n 0, 1) := by decide +kernel
theorem d_Al_add_1 : decode m_Al_add.2.1 1 = .ok (.dup, 1) := by decide +kernel
theorem d_Al_add_2 : decode m_Al_add.2.1 2 = .ok (.getfield 63, 3) := by decide +kernel
theorem d_Al_add_5 : decode m_Al_add.2.1 5 = .ok (.iconst 1, 1) := by decide +kernel
theorem d_Al_add_6 : decode m_Al_add.2.1 6 = .ok (.iadd, 1) := by decide +kernel
theorem d_Al_add_7 : decode m_Al_add.2.1 7 = .ok (.putfield 63, 3) := by decide +kernel
theorem d_Al_add_10 : decode m_Al_add.2.1 10 = .ok (.aload_n 0, 1) := by decide +kernel
theorem d_Al_add_11 : decode m_Al_add.2.1 11 = .ok (.aload_n 1, 1) := by decide +kernel
theorem d_Al_add_12 : decode m_Al_add.2.1 12 = .ok (.aload_n 0, 1) := by decide +kernel
theorem d_Al_add_13 : decode m_Al_add.2.1 13 = .ok (.getfield 9, 3) := by decide +kernel
theorem d_Al_add_16 : decode m_Al_add.2.1 16 = .ok (.aload_n 0, 1) := by decide +kernel
theorem d_Al_add_17 : decode m_Al_add.2.1 17 = .ok (.getfield 48, 3) := by decide +kernel
theorem d_Al_add_20 : decode m_Al_add.2.1 20 = .ok (.invokevirtual 131, 3) := by decide +kernel
theorem d_Al_add_23 : decode m_Al_add.2.1 23 = .ok (.iconst 1, 1) := by decide +kernel
theorem d_Al_add_24 : decode m_Al_add.2.1 24 = .ok (.ireturn, 1) := by decide +kernel
theorem d_Al_add2_0 : decode m_Al_add2.2.1 0 = .ok (.iload_n 3, 1) := by decide +kernel
theorem d_Al_add2_1 : decode m_Al_add2.2.1 1 = .ok (.aload_n 2, 1) := by decide +kernel
theorem d_Al_add2_2 : decode m_Al_add2.2.1 2 = .ok (.arraylength, 1) := by decide +kernel
theorem d_Al_add2_3 : decode m_Al_add2.2.1 3 = .ok (.if_icmp .ne 8, 3) := by decide +kernel
theorem d_Al_add2_6 : decode m_Al_add2.2.1 6 = .ok (.aload_n 0, 1) := by decide +kernel
theorem d_Al_add2_7 : decode m_Al_add2.2.1 7 = .ok (.invokevirtual 129, 3) := by decide +kernel
theorem d_Al_add2_10 : decode m_Al_add2.2.1 10 = .ok (.astore_n 2, 1) := by decide +kernel
theorem d_Al_add2_11 : decode m_Al_add2.2.1 11 = .ok (.aload_n 2, 1) := by decide +kernel
theorem d_Al_add2_12 : decode m_Al_add2.2.1 12 = .ok (.iload_n 3, 1) := by decide +kernel
theorem d_Al_add2_13 : decode m_Al_add2.2.1 13 = .ok (.aload_n 1, 1) := by decide +kernel
theorem d_Al_add2_14 : decode m_Al_add2.2.1 14 = .ok (.aastore, 1) := by decide +kernel
theorem d_Al_add2_15 : decode m_Al_add2.2.1 15 = .ok (.aload_n 0, 1) := by decide +kernel
theorem d_Al_add2_16 : decode m_Al_add2.2.1 16 = .ok (.iload_n 3, 1) := by decide +kernel
theorem d_Al_add2_17 : decode m_Al_add2.2.1 17 = .ok (.iconst 1, 1) := by decide +kernel
theorem d_Al_add2_18 : decode m_Al_add2.2.1 18 = .ok (.iadd, 1) := by decide +kernel
theorem d_Al_add2_19 : decode m_Al_add2.2.1 19 = .ok (.putfield 48, 3) := by decide +kernel
theorem d_Al_add2_22 : decode m_Al_add2.2.1 22 = .ok (.return_, 1) := by decide +kernel
theorem d_Al_grow_0 : decode m_Al_grow.2.1 0 = .ok (.aload_n 0, 1) := by decide +kernel
theorem d_Al_grow_1 : decode m_Al_grow.2.1 1 = .ok (.aload_n 0, 1) := by decide +kernel
theorem d_Al_grow_2 : decode m_Al_grow.2.1 2 = .ok (.getfield 48, 3) := by decide +kernel
theorem d_Al_grow_5 : decode m_Al_grow.2.1 5 = .ok (.iconst 1, 1) := by decide +kernel
theorem d_Al_grow_6 : decode m_Al_grow.2.1 6 = .ok (.iadd, 1) := by decide +kernel
theorem d_Al_grow_7 : decode m_Al_grow.2.1 7 = .ok (.invokevirtual 69, 3) := by decide +kernel
theorem d_Al_grow_10 : decode m_Al_grow.2.1 10 = .ok (.areturn, 1) := by decide +kernel
theorem d_Al_grow2_0 : decode m_Al_grow2.2.1 0 = .ok (.aload_n 0, 1) := by decide +kernel
theorem d_Al_grow2_1 : decode m_Al_grow2.2.1 1 = .ok (.getfield 9, 3) := by decide +kernel
theorem d_Al_grow2_4 : decode m_Al_grow2.2.1 4 = .ok (.arraylength, 1) := by decide +kernel
theorem d_Al_grow2_5 : decode m_Al_grow2.2.1 5 = .ok (.istore_n 2, 1) := by decide +kernel
theorem d_Al_grow2_6 : decode m_Al_grow2.2.1 6 = .ok (.iload_n 2, 1) := by decide +kernel
theorem d_Al_grow2_7 : decode m_Al_grow2.2.1 7 = .ok (.ifCond .gt 13, 3) := by decide +kernel
theorem d_Al_grow2_10 : decode m_Al_grow2.2.1 10 = .ok (.aload_n 0, 1) := by decide +kernel
theorem d_Al_grow2_11 : decode m_Al_grow2.2.1 11 = .ok (.getfield 9, 3) := by decide +kernel
theorem d_Al_grow2_14 : decode m_Al_grow2.2.1 14 = .ok (.getstatic 39, 3) := by decide +kernel
theorem d_Al_grow2_17 : decode m_Al_grow2.2.1 17 = .ok (.if_acmp .eq 28, 3) := by decide +kernel
theorem d_Al_grow2_20 : decode m_Al_grow2.2.1 20 = .ok (.iload_n 2, 1) := by decide +kernel
theorem d_Al_grow2_21 : decode m_Al_grow2.2.1 21 = .ok (.iload_n 1, 1) := by decide +kernel
theorem d_Al_grow2_22 : decode m_Al_grow2.2.1 22 = .ok (.iload_n 2, 1) := by decide +kernel
theorem d_Al_grow2_23 : decode m_Al_grow2.2.1 23 = .ok (.isub, 1) := by decide +kernel
theorem d_Al_grow2_24 : decode m_Al_grow2.2.1 24 = .ok (.iload_n 2, 1) := by decide +kernel
theorem d_Al_grow2_25 : decode m_Al_grow2.2.1 25 = .ok (.iconst 1, 1) := by decide +kernel
theorem d_Al_grow2_26 : decode m_Al_grow2.2.1 26 = .ok (.ishr, 1) := by decide +kernel
theorem d_Al_grow2_27 : decode m_Al_grow2.2.1 27 = .ok (.invokestatic 73, 3) := by decide +kernel
theorem d_Al_grow2_30 : decode m_Al_grow2.2.1 30 = .ok (.istore_n 3, 1) := by decide +kernel
theorem d_Al_grow2_31 : decode m_Al_grow2.2.1 31 = .ok (.aload_n 0, 1) := by decide +kernel
theorem d_Al_grow2_32 : decode m_Al_grow2.2.1 32 = .ok (.aload_n 0, 1) := by decide +kernel
theorem d_Al_grow2_33 : decode m_Al_grow2.2.1 33 = .ok (.getfield 9, 3) := by decide +kernel
theorem d_Al_grow2_36 : decode m_Al_grow2.2.1 36 = .ok (.iload_n 3, 1) := by decide +kernel
theorem d_Al_grow2_37 : decode m_Al_grow2.2.1 37 = .ok (.invokestatic 66, 3) := by decide +kernel
theorem d_Al_grow2_40 : decode m_Al_grow2.2.1 40 = .ok (.dup_x1, 1) := by decide +kernel
theorem d_Al_grow2_41 : decode m_Al_grow2.2.1 41 = .ok (.putfield 9, 3) := by decide +kernel
theorem d_Al_grow2_44 : decode m_Al_grow2.2.1 44 = .ok (.areturn, 1) := by decide +kernel
theorem d_Al_grow2_45 : decode m_Al_grow2.2.1 45 = .ok (.aload_n 0, 1) := by decide +kernel
theorem d_Al_grow2_46 : decode m_Al_grow2.2.1 46 = .ok (.bipush 10, 2) := by decide +kernel
theorem d_Al_grow2_48 : decode m_Al_grow2.2.1 48 = .ok (.iload_n 1, 1) := by decide +kernel
theorem d_Al_grow2_49 : decode m_Al_grow2.2.1 49 = .ok (.invokestatic 79, 3) := by decide +kernel
theorem d_Al_grow2_52 : decode m_Al_grow2.2.1 52 = .ok (.anewarray 7, 3) := by decide +kernel
theorem d_Al_grow2_55 : decode m_Al_grow2.2.1 55 = .ok (.dup_x1, 1) := by decide +kernel
theorem d_Al_grow2_56 : decode m_Al_grow2.2.1 56 = .ok (.putfield 9, 3) := by decide +kernel
theorem d_Al_grow2_59 : decode m_Al_grow2.2.1 59 = .ok (.areturn, 1) := by decide +kernel
theorem d_As_newLength_0 : decode m_As_newLength.2.1 0 = .ok (.iload_n 0, 1) := by decide +kernel
theorem d_As_newLength_1 : decode m_As_newLength.2.1 1 = .ok (.iload_n 1, 1) := by decide +kernel
theorem d_As_newLength_2 : decode m_As_newLength.2.1 2 = .ok (.iload_n 2, 1) := by decide +kernel
theorem d_As_newLength_3 : decode m_As_newLength.2.1 3 = .ok (.invokestatic 194, 3) := by decide +kernel
theorem d_As_newLength_6 : decode m_As_newLength.2.1 6 = .ok (.iadd, 1) := by decide +kernel
theorem d_As_newLength_7 : decode m_As_newLength.2.1 7 = .ok (.istore_n 3, 1) := by decide +kernel
theorem d_As_newLength_8 : decode m_As_newLength.2.1 8 = .ok (.iconst 0, 1) := by decide +kernel
theorem d_As_newLength_9 : decode m_As_newLength.2.1 9 = .ok (.iload_n 3, 1) := by decide +kernel
theorem d_As_newLength_10 : decode m_As_newLength.2.1 10 = .ok (.if_icmp .ge 11, 3) := by decide +kernel
theorem d_As_newLength_13 : decode m_As_newLength.2.1 13 = .ok (.iload_n 3, 1) := by decide +kernel
theorem d_As_newLength_14 : decode m_As_newLength.2.1 14 = .ok (.ldc 200, 2) := by decide +kernel
theorem d_As_newLength_16 : decode m_As_newLength.2.1 16 = .ok (.if_icmp .gt 5, 3) := by decide +kernel
theorem d_As_newLength_19 : decode m_As_newLength.2.1 19 = .ok (.iload_n 3, 1) := by decide +kernel
theorem d_As_newLength_20 : decode m_As_newLength.2.1 20 = .ok (.ireturn, 1) := by decide +kernel
theorem d_As_newLength_21 : decode m_As_newLength.2.1 21 = .ok (.iload_n 0, 1) := by decide +kernel
theorem d_As_newLength_22 : decode m_As_newLength.2.1 22 = .ok (.iload_n 1, 1) := by decide +kernel
theorem d_As_newLength_23 : decode m_As_newLength.2.1 23 = .ok (.invokestatic 201, 3) := by decide +kernel
theorem d_As_newLength_26 : decode m_As_newLength.2.1 26 = .ok (.ireturn, 1) := by decide +kernel
theorem d_Ma_max_0 : decode m_Ma_max.2.1 0 = .ok (.iload_n 0, 1) := by decide +kernel
theorem d_Ma_max_1 : decode m_Ma_max.2.1 1 = .ok (.iload_n 1, 1) := by decide +kernel
theorem d_Ma_max_2 : decode m_Ma_max.2.1 2 = .ok (.if_icmp .lt 7, 3) := by decide +kernel
theorem d_Ma_max_5 : decode m_Ma_max.2.1 5 = .ok (.iload_n 0, 1) := by decide +kernel
theorem d_Ma_max_6 : decode m_Ma_max.2.1 6 = .ok (.goto 4, 3) := by decide +kernel
theorem d_Ma_max_9 : decode m_Ma_max.2.1 9 = .ok (.iload_n 1, 1) := by decide +kernel
theorem d_Ma_max_10 : decode m_Ma_max.2.1 10 = .ok (.ireturn, 1) := by decide +kernel
theorem d_Ar_copyOf_0 : decode m_Ar_copyOf.2.1 0 = .ok (.aload_n 0, 1) := by decide +kernel
theorem d_Ar_copyOf_1 : decode m_Ar_copyOf.2.1 1 = .ok (.iload_n 1, 1) := by decide +kernel
theorem d_Ar_copyOf_2 : decode m_Ar_copyOf.2.1 2 = .ok (.aload_n 0, 1) := by decide +kernel
theorem d_Ar_copyOf_3 : decode m_Ar_copyOf.2.1 3 = .ok (.invokevirtual 86, 3) := by decide +kernel
theorem d_Ar_copyOf_6 : decode m_Ar_copyOf.2.1 6 = .ok (.invokestatic 300, 3) := by decide +kernel
theorem d_Ar_copyOf_9 : decode m_Ar_copyOf.2.1 9 = .ok (.areturn, 1) := by decide +kernel
theorem d_Ar_copyOf2_0 : decode m_Ar_copyOf2.2.1 0 = .ok (.aload_n 2, 1) := by decide +kernel
theorem d_Ar_copyOf2_1 : decode m_Ar_copyOf2.2.1 1 = .ok (.ldc 110, 2) := by decide +kernel
theorem d_Ar_copyOf2_3 : decode m_Ar_copyOf2.2.1 3 = .ok (.if_acmp .ne 10, 3) := by decide +kernel
theorem d_Ar_copyOf2_6 : decode m_Ar_copyOf2.2.1 6 = .ok (.iload_n 1, 1) := by decide +kernel
theorem d_Ar_copyOf2_7 : decode m_Ar_copyOf2.2.1 7 = .ok (.anewarray 2, 3) := by decide +kernel
theorem d_Ar_copyOf2_10 : decode m_Ar_copyOf2.2.1 10 = .ok (.goto 14, 3) := by decide +kernel
theorem d_Ar_copyOf2_13 : decode m_Ar_copyOf2.2.1 13 = .ok (.aload_n 2, 1) := by decide +kernel
theorem d_Ar_copyOf2_14 : decode m_Ar_copyOf2.2.1 14 = .ok (.invokevirtual 90, 3) := by decide +kernel
theorem d_Ar_copyOf2_17 : decode m_Ar_copyOf2.2.1 17 = .ok (.iload_n 1, 1) := by decide +kernel
theorem d_Ar_copyOf2_18 : decode m_Ar_copyOf2.2.1 18 = .ok (.invokestatic 95, 3) := by decide +kernel
theorem d_Ar_copyOf2_21 : decode m_Ar_copyOf2.2.1 21 = .ok (.checkcast 110, 3) := by decide +kernel
theorem d_Ar_copyOf2_24 : decode m_Ar_copyOf2.2.1 24 = .ok (.astore_n 3, 1) := by decide +kernel
theorem d_Ar_copyOf2_25 : decode m_Ar_copyOf2.2.1 25 = .ok (.aload_n 0, 1) := by decide +kernel
theorem d_Ar_copyOf2_26 : decode m_Ar_copyOf2.2.1 26 = .ok (.iconst 0, 1) := by decide +kernel
theorem d_Ar_copyOf2_27 : decode m_Ar_copyOf2.2.1 27 = .ok (.aload_n 3, 1) := by decide +kernel
theorem d_Ar_copyOf2_28 : decode m_Ar_copyOf2.2.1 28 = .ok (.iconst 0, 1) := by decide +kernel
theorem d_Ar_copyOf2_29 : decode m_Ar_copyOf2.2.1 29 = .ok (.aload_n 0, 1) := by decide +kernel
theorem d_Ar_copyOf2_30 : decode m_Ar_copyOf2.2.1 30 = .ok (.arraylength, 1) := by decide +kernel
theorem d_Ar_copyOf2_31 : decode m_Ar_copyOf2.2.1 31 = .ok (.iload_n 1, 1) := by decide +kernel
theorem d_Ar_copyOf2_32 : decode m_Ar_copyOf2.2.1 32 = .ok (.invokestatic 304, 3) := by decide +kernel
theorem d_Ar_copyOf2_35 : decode m_Ar_copyOf2.2.1 35 = .ok (.invokestatic 150, 3) := by decide +kernel
theorem d_Ar_copyOf2_38 : decode m_Ar_copyOf2.2.1 38 = .ok (.aload_n 3, 1) := by decide +kernel
theorem d_Ar_copyOf2_39 : decode m_Ar_copyOf2.2.1 39 = .ok (.areturn, 1) := by decide +kernel
theorem d_Ma_min_0 : decode m_Ma_min.2.1 0 = .ok (.iload_n 0, 1) := by decide +kernel
theorem d_Ma_min_1 : decode m_Ma_min.2.1 1 = .ok (.iload_n 1, 1) := by decide +kernel
theorem d_Ma_min_2 : decode m_Ma_min.2.1 2 = .ok (.if_icmp .gt 7, 3) := by decide +kernel
theorem d_Ma_min_5 : decode m_Ma_min.2.1 5 = .ok (.iload_n 0, 1) := by decide +kernel
theorem d_Ma_min_6 : decode m_Ma_min.2.1 6 = .ok (.goto 4, 3) := by decide +kernel
theorem d_Ma_min_9 : decode m_Ma_min.2.1 9 = .ok (.iload_n 1, 1) := by decide +kernel
theorem d_Ma_min_10 : decode m_Ma_min.2.1 10 = .ok (.ireturn, 1) := by decide +kernel
theorem d_Nd_goOnWith_0 : decode m_Nd_goOnWith.2.1 0 = .ok (.iload_n 1, 1) := by decide +kernel
theorem d_Nd_goOnWith_1 : decode m_Nd_goOnWith.2.1 1 = .ok (.istore_n 3, 1) := by decide +kernel
theorem d_Nd_goOnWith_2 : decode m_Nd_goOnWith.2.1 2 = .ok (.iload_n 2, 1) := by decide +kernel
theorem d_Nd_goOnWith_3 : decode m_Nd_goOnWith.2.1 3 = .ok (.istore 4, 2) := by decide +kernel
theorem d_Nd_goOnWith_5 : decode m_Nd_goOnWith.2.1 5 = .ok (.iconst 0, 1) := by decide +kernel
theorem d_Nd_goOnWith_6 : decode m_Nd_goOnWith.2.1 6 = .ok (.istore 5, 2) := by decide +kernel
theorem d_Nd_goOnWith_8 : decode m_Nd_goOnWith.2.1 8 = .ok (.iload 5, 2) := by decide +kernel
theorem d_Nd_goOnWith_10 : decode m_Nd_goOnWith.2.1 10 = .ok (.bipush 20, 2) := by decide +kernel
theorem d_Nd_goOnWith_12 : decode m_Nd_goOnWith.2.1 12 = .ok (.if_icmp .ge 52, 3) := by decide +kernel
theorem d_Nd_goOnWith_15 : decode m_Nd_goOnWith.2.1 15 = .ok (.iload_n 3, 1) := by decide +kernel
theorem d_Nd_goOnWith_16 : decode m_Nd_goOnWith.2.1 16 = .ok (.iload 4, 2) := by decide +kernel
theorem d_Nd_goOnWith_18 : decode m_Nd_goOnWith.2.1 18 = .ok (.if_icmp .gt 46, 3) := by decide +kernel
theorem d_Nd_goOnWith_21 : decode m_Nd_goOnWith.2.1 21 = .ok (.aload_n 0, 1) := by decide +kernel
theorem d_Nd_goOnWith_22 : decode m_Nd_goOnWith.2.1 22 = .ok (.iload_n 3, 1) := by decide +kernel
theorem d_Nd_goOnWith_23 : decode m_Nd_goOnWith.2.1 23 = .ok (.invokevirtual 113, 3) := by decide +kernel
theorem d_Nd_goOnWith_26 : decode m_Nd_goOnWith.2.1 26 = .ok (.iinc 3 1, 3) := by decide +kernel
theorem d_Nd_goOnWith_29 : decode m_Nd_goOnWith.2.1 29 = .ok (.aload_n 0, 1) := by decide +kernel
theorem d_Nd_goOnWith_30 : decode m_Nd_goOnWith.2.1 30 = .ok (.invokevirtual 116, 3) := by decide +kernel
theorem d_Nd_goOnWith_33 : decode m_Nd_goOnWith.2.1 33 = .ok (.ifCond .eq 25, 3) := by decide +kernel
theorem d_Nd_goOnWith_36 : decode m_Nd_goOnWith.2.1 36 = .ok (.aload_n 0, 1) := by decide +kernel
theorem d_Nd_goOnWith_37 : decode m_Nd_goOnWith.2.1 37 = .ok (.invokevirtual 119, 3) := by decide +kernel
theorem d_Nd_goOnWith_40 : decode m_Nd_goOnWith.2.1 40 = .ok (.aload_n 0, 1) := by decide +kernel
theorem d_Nd_goOnWith_41 : decode m_Nd_goOnWith.2.1 41 = .ok (.getfield 35, 3) := by decide +kernel
theorem d_Nd_goOnWith_44 : decode m_Nd_goOnWith.2.1 44 = .ok (.iconst 4, 1) := by decide +kernel
theorem d_Nd_goOnWith_45 : decode m_Nd_goOnWith.2.1 45 = .ok (.if_icmp .ne 4, 3) := by decide +kernel
theorem d_Nd_goOnWith_48 : decode m_Nd_goOnWith.2.1 48 = .ok (.return_, 1) := by decide +kernel
theorem d_Nd_goOnWith_49 : decode m_Nd_goOnWith.2.1 49 = .ok (.aload_n 0, 1) := by decide +kernel
theorem d_Nd_goOnWith_50 : decode m_Nd_goOnWith.2.1 50 = .ok (.invokevirtual 67, 3) := by decide +kernel
theorem d_Nd_goOnWith_53 : decode m_Nd_goOnWith.2.1 53 = .ok (.iconst 0, 1) := by decide +kernel
theorem d_Nd_goOnWith_54 : decode m_Nd_goOnWith.2.1 54 = .ok (.istore_n 3, 1) := by decide +kernel
theorem d_Nd_goOnWith_55 : decode m_Nd_goOnWith.2.1 55 = .ok (.iconst 3, 1) := by decide +kernel
theorem d_Nd_goOnWith_56 : decode m_Nd_goOnWith.2.1 56 = .ok (.istore 4, 2) := by decide +kernel
theorem d_Nd_goOnWith_58 : decode m_Nd_goOnWith.2.1 58 = .ok (.iinc 5 1, 3) := by decide +kernel
theorem d_Nd_goOnWith_61 : decode m_Nd_goOnWith.2.1 61 = .ok (.goto (-53), 3) := by decide +kernel
theorem d_Nd_goOnWith_64 : decode m_Nd_goOnWith.2.1 64 = .ok (.return_, 1) := by decide +kernel
theorem d_Nd_goOnAndLook_0 : decode m_Nd_goOnAndLook.2.1 0 = .ok (.iload_n 1, 1) := by decide +kernel
theorem d_Nd_goOnAndLook_1 : decode m_Nd_goOnAndLook.2.1 1 = .ok (.istore_n 2, 1) := by decide +kernel
theorem d_Nd_goOnAndLook_2 : decode m_Nd_goOnAndLook.2.1 2 = .ok (.iconst 0, 1) := by decide +kernel
theorem d_Nd_goOnAndLook_3 : decode m_Nd_goOnAndLook.2.1 3 = .ok (.istore_n 3, 1) := by decide +kernel
theorem d_Nd_goOnAndLook_4 : decode m_Nd_goOnAndLook.2.1 4 = .ok (.iload_n 3, 1) := by decide +kernel
theorem d_Nd_goOnAndLook_5 : decode m_Nd_goOnAndLook.2.1 5 = .ok (.iconst 4, 1) := by decide +kernel
theorem d_Nd_goOnAndLook_6 : decode m_Nd_goOnAndLook.2.1 6 = .ok (.if_icmp .gt 82, 3) := by decide +kernel
theorem d_Nd_goOnAndLook_9 : decode m_Nd_goOnAndLook.2.1 9 = .ok (.iload_n 2, 1) := by decide +kernel
theorem d_Nd_goOnAndLook_10 : decode m_Nd_goOnAndLook.2.1 10 = .ok (.iconst (-1), 1) := by decide +kernel
theorem d_Nd_goOnAndLook_11 : decode m_Nd_goOnAndLook.2.1 11 = .ok (.if_icmp .eq 77, 3) := by decide +kernel
theorem d_Nd_goOnAndLook_14 : decode m_Nd_goOnAndLook.2.1 14 = .ok (.aload_n 0, 1) := by decide +kernel
theorem d_Nd_goOnAndLook_15 : decode m_Nd_goOnAndLook.2.1 15 = .ok (.iload_n 2, 1) := by decide +kernel
theorem d_Nd_goOnAndLook_16 : decode m_Nd_goOnAndLook.2.1 16 = .ok (.invokevirtual 122, 3) := by decide +kernel
theorem d_Nd_goOnAndLook_19 : decode m_Nd_goOnAndLook.2.1 19 = .ok (.astore 4, 2) := by decide +kernel
theorem d_Nd_goOnAndLook_21 : decode m_Nd_goOnAndLook.2.1 21 = .ok (.aload_n 0, 1) := by decide +kernel
theorem d_Nd_goOnAndLook_22 : decode m_Nd_goOnAndLook.2.1 22 = .ok (.iload_n 2, 1) := by decide +kernel
theorem d_Nd_goOnAndLook_23 : decode m_Nd_goOnAndLook.2.1 23 = .ok (.invokevirtual 126, 3) := by decide +kernel
theorem d_Nd_goOnAndLook_26 : decode m_Nd_goOnAndLook.2.1 26 = .ok (.astore 5, 2) := by decide +kernel
theorem d_Nd_goOnAndLook_28 : decode m_Nd_goOnAndLook.2.1 28 = .ok (.aload 4, 2) := by decide +kernel
theorem d_Nd_goOnAndLook_30 : decode m_Nd_goOnAndLook.2.1 30 = .ok (.invokevirtual 130, 3) := by decide +kernel
theorem d_Nd_goOnAndLook_33 : decode m_Nd_goOnAndLook.2.1 33 = .ok (.aload 4, 2) := by decide +kernel
theorem d_Nd_goOnAndLook_35 : decode m_Nd_goOnAndLook.2.1 35 = .ok (.invokevirtual 133, 3) := by decide +kernel
theorem d_Nd_goOnAndLook_38 : decode m_Nd_goOnAndLook.2.1 38 = .ok (.aload 4, 2) := by decide +kernel
theorem d_Nd_goOnAndLook_40 : decode m_Nd_goOnAndLook.2.1 40 = .ok (.invokevirtual 136, 3) := by decide +kernel
theorem d_Nd_goOnAndLook_43 : decode m_Nd_goOnAndLook.2.1 43 = .ok (.aload 4, 2) := by decide +kernel
theorem d_Nd_goOnAndLook_45 : decode m_Nd_goOnAndLook.2.1 45 = .ok (.getfield 139, 3) := by decide +kernel
theorem d_Nd_goOnAndLook_48 : decode m_Nd_goOnAndLook.2.1 48 = .ok (.iconst (-1), 1) := by decide +kernel
theorem d_Nd_goOnAndLook_49 : decode m_Nd_goOnAndLook.2.1 49 = .ok (.if_icmp .eq 9, 3) := by decide +kernel
theorem d_Nd_goOnAndLook_52 : decode m_Nd_goOnAndLook.2.1 52 = .ok (.aload 5, 2) := by decide +kernel
theorem d_Nd_goOnAndLook_54 : decode m_Nd_goOnAndLook.2.1 54 = .ok (.iconst 1, 1) := by decide +kernel
theorem d_Nd_goOnAndLook_55 : decode m_Nd_goOnAndLook.2.1 55 = .ok (.invokevirtual 141, 3) := by decide +kernel
theorem d_Nd_goOnAndLook_58 : decode m_Nd_goOnAndLook.2.1 58 = .ok (.aload 5, 2) := by decide +kernel
theorem d_Nd_goOnAndLook_60 : decode m_Nd_goOnAndLook.2.1 60 = .ok (.invokevirtual 144, 3) := by decide +kernel
theorem d_Nd_goOnAndLook_63 : decode m_Nd_goOnAndLook.2.1 63 = .ok (.aload_n 0, 1) := by decide +kernel
theorem d_Nd_goOnAndLook_64 : decode m_Nd_goOnAndLook.2.1 64 = .ok (.invokevirtual 147, 3) := by decide +kernel
theorem d_Nd_goOnAndLook_67 : decode m_Nd_goOnAndLook.2.1 67 = .ok (.istore_n 2, 1) := by decide +kernel
theorem d_Nd_goOnAndLook_68 : decode m_Nd_goOnAndLook.2.1 68 = .ok (.iload_n 2, 1) := by decide +kernel
theorem d_Nd_goOnAndLook_69 : decode m_Nd_goOnAndLook.2.1 69 = .ok (.iconst (-1), 1) := by decide +kernel
theorem d_Nd_goOnAndLook_70 : decode m_Nd_goOnAndLook.2.1 70 = .ok (.if_icmp .eq 12, 3) := by decide +kernel
theorem d_Nd_goOnAndLook_73 : decode m_Nd_goOnAndLook.2.1 73 = .ok (.aload_n 0, 1) := by decide +kernel
theorem d_Nd_goOnAndLook_74 : decode m_Nd_goOnAndLook.2.1 74 = .ok (.iload_n 2, 1) := by decide +kernel
theorem d_Nd_goOnAndLook_75 : decode m_Nd_goOnAndLook.2.1 75 = .ok (.invokevirtual 126, 3) := by decide +kernel
theorem d_Nd_goOnAndLook_78 : decode m_Nd_goOnAndLook.2.1 78 = .ok (.iconst 0, 1) := by decide +kernel
theorem d_Nd_goOnAndLook_79 : decode m_Nd_goOnAndLook.2.1 79 = .ok (.invokevirtual 141, 3) := by decide +kernel
theorem d_Nd_goOnAndLook_82 : decode m_Nd_goOnAndLook.2.1 82 = .ok (.iinc 3 1, 3) := by decide +kernel
theorem d_Nd_goOnAndLook_85 : decode m_Nd_goOnAndLook.2.1 85 = .ok (.goto (-81), 3) := by decide +kernel
theorem d_Nd_goOnAndLook_88 : decode m_Nd_goOnAndLook.2.1 88 = .ok (.return_, 1) := by decide +kernel
theorem d_Nd_broadcastOf_0 : decode m_Nd_broadcastOf.2.1 0 = .ok (.aload_n 0, 1) := by decide +kernel
theorem d_Nd_broadcastOf_1 : decode m_Nd_broadcastOf.2.1 1 = .ok (.getfield 25, 3) := by decide +kernel
theorem d_Nd_broadcastOf_4 : decode m_Nd_broadcastOf.2.1 4 = .ok (.aload_n 0, 1) := by decide +kernel
theorem d_Nd_broadcastOf_5 : decode m_Nd_broadcastOf.2.1 5 = .ok (.getfield 35, 3) := by decide +kernel
theorem d_Nd_broadcastOf_8 : decode m_Nd_broadcastOf.2.1 8 = .ok (.iconst 4, 1) := by decide +kernel
theorem d_Nd_broadcastOf_9 : decode m_Nd_broadcastOf.2.1 9 = .ok (.imul, 1) := by decide +kernel
theorem d_Nd_broadcastOf_10 : decode m_Nd_broadcastOf.2.1 10 = .ok (.iload_n 1, 1) := by decide +kernel
theorem d_Nd_broadcastOf_11 : decode m_Nd_broadcastOf.2.1 11 = .ok (.iadd, 1) := by decide +kernel
theorem d_Nd_broadcastOf_12 : decode m_Nd_broadcastOf.2.1 12 = .ok (.aaload, 1) := by decide +kernel
theorem d_Nd_broadcastOf_13 : decode m_Nd_broadcastOf.2.1 13 = .ok (.areturn, 1) := by decide +kernel
theorem d_Nd_agreementOf_0 : decode m_Nd_agreementOf.2.1 0 = .ok (.aload_n 0, 1) := by decide +kernel
theorem d_Nd_agreementOf_1 : decode m_Nd_agreementOf.2.1 1 = .ok (.getfield 31, 3) := by decide +kernel
theorem d_Nd_agreementOf_4 : decode m_Nd_agreementOf.2.1 4 = .ok (.aload_n 0, 1) := by decide +kernel
theorem d_Nd_agreementOf_5 : decode m_Nd_agreementOf.2.1 5 = .ok (.getfield 35, 3) := by decide +kernel
theorem d_Nd_agreementOf_8 : decode m_Nd_agreementOf.2.1 8 = .ok (.iconst 4, 1) := by decide +kernel
theorem d_Nd_agreementOf_9 : decode m_Nd_agreementOf.2.1 9 = .ok (.imul, 1) := by decide +kernel
theorem d_Nd_agreementOf_10 : decode m_Nd_agreementOf.2.1 10 = .ok (.iload_n 1, 1) := by decide +kernel
theorem d_Nd_agreementOf_11 : decode m_Nd_agreementOf.2.1 11 = .ok (.iadd, 1) := by decide +kernel
theorem d_Nd_agreementOf_12 : decode m_Nd_agreementOf.2.1 12 = .ok (.aaload, 1) := by decide +kernel
theorem d_Nd_agreementOf_13 : decode m_Nd_agreementOf.2.1 13 = .ok (.areturn, 1) := by decide +kernel
theorem d_Bc_sendEchoIfDue_0 : decode m_Bc_sendEchoIfDue.2.1 0 = .ok (.aload_n 0, 1) := by decide +kernel
theorem d_Bc_sendEchoIfDue_1 : decode m_Bc_sendEchoIfDue.2.1 1 = .ok (.getfield 68, 3) := by decide +kernel
theorem d_Bc_sendEchoIfDue_4 : decode m_Bc_sendEchoIfDue.2.1 4 = .ok (.ifCond .eq 50, 3) := by decide +kernel
theorem d_Bc_sendEchoIfDue_7 : decode m_Bc_sendEchoIfDue.2.1 7 = .ok (.aload_n 0, 1) := by decide +kernel
theorem d_Bc_sendEchoIfDue_8 : decode m_Bc_sendEchoIfDue.2.1 8 = .ok (.getfield 87, 3) := by decide +kernel
theorem d_Bc_sendEchoIfDue_11 : decode m_Bc_sendEchoIfDue.2.1 11 = .ok (.ifCond .ne 43, 3) := by decide +kernel
theorem d_Bc_sendEchoIfDue_14 : decode m_Bc_sendEchoIfDue.2.1 14 = .ok (.aload_n 0, 1) := by decide +kernel
theorem d_Bc_sendEchoIfDue_15 : decode m_Bc_sendEchoIfDue.2.1 15 = .ok (.iconst 1, 1) := by decide +kernel
theorem d_Bc_sendEchoIfDue_16 : decode m_Bc_sendEchoIfDue.2.1 16 = .ok (.putfield 87, 3) := by decide +kernel
theorem d_Bc_sendEchoIfDue_19 : decode m_Bc_sendEchoIfDue.2.1 19 = .ok (.aload_n 0, 1) := by decide +kernel
theorem d_Bc_sendEchoIfDue_20 : decode m_Bc_sendEchoIfDue.2.1 20 = .ok (.getfield 29, 3) := by decide +kernel
theorem d_Bc_sendEchoIfDue_23 : decode m_Bc_sendEchoIfDue.2.1 23 = .ok (.new 43, 3) := by decide +kernel
theorem d_Bc_sendEchoIfDue_26 : decode m_Bc_sendEchoIfDue.2.1 26 = .ok (.dup, 1) := by decide +kernel
theorem d_Bc_sendEchoIfDue_27 : decode m_Bc_sendEchoIfDue.2.1 27 = .ok (.aload_n 0, 1) := by decide +kernel
theorem d_Bc_sendEchoIfDue_28 : decode m_Bc_sendEchoIfDue.2.1 28 = .ok (.getfield 33, 3) := by decide +kernel
theorem d_Bc_sendEchoIfDue_31 : decode m_Bc_sendEchoIfDue.2.1 31 = .ok (.aload_n 0, 1) := by decide +kernel
theorem d_Bc_sendEchoIfDue_32 : decode m_Bc_sendEchoIfDue.2.1 32 = .ok (.getfield 36, 3) := by decide +kernel
theorem d_Bc_sendEchoIfDue_35 : decode m_Bc_sendEchoIfDue.2.1 35 = .ok (.aload_n 0, 1) := by decide +kernel
theorem d_Bc_sendEchoIfDue_36 : decode m_Bc_sendEchoIfDue.2.1 36 = .ok (.getfield 39, 3) := by decide +kernel
theorem d_Bc_sendEchoIfDue_39 : decode m_Bc_sendEchoIfDue.2.1 39 = .ok (.iconst 1, 1) := by decide +kernel
theorem d_Bc_sendEchoIfDue_40 : decode m_Bc_sendEchoIfDue.2.1 40 = .ok (.aload_n 0, 1) := by decide +kernel
theorem d_Bc_sendEchoIfDue_41 : decode m_Bc_sendEchoIfDue.2.1 41 = .ok (.getfield 81, 3) := by decide +kernel
