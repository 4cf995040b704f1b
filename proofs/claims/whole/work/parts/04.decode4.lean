theorem d_Reader_init_0 : decode b_Reader_init 0 = .ok (.aload_n 0, 1) := by decide +kernel
theorem d_Reader_init_1 : decode b_Reader_init 1 = .ok (.invokespecial 3, 3) := by decide +kernel
theorem d_Reader_init_4 : decode b_Reader_init 4 = .ok (.aload_n 0, 1) := by decide +kernel
theorem d_Reader_init_5 : decode b_Reader_init 5 = .ok (.new 9, 3) := by decide +kernel
theorem d_Reader_init_8 : decode b_Reader_init 8 = .ok (.dup, 1) := by decide +kernel
theorem d_Reader_init_9 : decode b_Reader_init 9 = .ok (.invokespecial 11, 3) := by decide +kernel
theorem d_Reader_init_12 : decode b_Reader_init 12 = .ok (.putfield 12, 3) := by decide +kernel
theorem d_Reader_init_15 : decode b_Reader_init 15 = .ok (.aload_n 0, 1) := by decide +kernel
theorem d_Reader_init_16 : decode b_Reader_init 16 = .ok (.aload_n 1, 1) := by decide +kernel
theorem d_Reader_init_17 : decode b_Reader_init 17 = .ok (.putfield 18, 3) := by decide +kernel
theorem d_Reader_init_20 : decode b_Reader_init 20 = .ok (.return_, 1) := by decide +kernel
theorem d_Reader_run_0 : decode b_Reader_run 0 = .ok (.aload_n 0, 1) := by decide +kernel
theorem d_Reader_run_1 : decode b_Reader_run 1 = .ok (.aload_n 1, 1) := by decide +kernel
theorem d_Reader_run_2 : decode b_Reader_run 2 = .ok (.invokevirtual 22, 3) := by decide +kernel
theorem d_Reader_run_5 : decode b_Reader_run 5 = .ok (.aload_n 0, 1) := by decide +kernel
theorem d_Reader_run_6 : decode b_Reader_run 6 = .ok (.iconst 0, 1) := by decide +kernel
theorem d_Reader_run_7 : decode b_Reader_run 7 = .ok (.invokevirtual 26, 3) := by decide +kernel
theorem d_Reader_run_10 : decode b_Reader_run 10 = .ok (.lstore_n 2, 1) := by decide +kernel
theorem d_Reader_run_11 : decode b_Reader_run 11 = .ok (.aload_n 0, 1) := by decide +kernel
theorem d_Reader_run_12 : decode b_Reader_run 12 = .ok (.invokevirtual 30, 3) := by decide +kernel
theorem d_Reader_run_15 : decode b_Reader_run 15 = .ok (.ifCond .eq 18, 3) := by decide +kernel
theorem d_Reader_run_18 : decode b_Reader_run 18 = .ok (.lload_n 2, 1) := by decide +kernel
theorem d_Reader_run_19 : decode b_Reader_run 19 = .ok (.ldc2_w 34, 3) := by decide +kernel
theorem d_Reader_run_22 : decode b_Reader_run 22 = .ok (.lcmp, 1) := by decide +kernel
theorem d_Reader_run_23 : decode b_Reader_run 23 = .ok (.ifCond .le 10, 3) := by decide +kernel
theorem d_Reader_run_26 : decode b_Reader_run 26 = .ok (.aload_n 0, 1) := by decide +kernel
theorem d_Reader_run_27 : decode b_Reader_run 27 = .ok (.bipush 6, 2) := by decide +kernel
theorem d_Reader_run_29 : decode b_Reader_run 29 = .ok (.iconst 0, 1) := by decide +kernel
theorem d_Reader_run_30 : decode b_Reader_run 30 = .ok (.invokevirtual 36, 3) := by decide +kernel
theorem d_Reader_run_33 : decode b_Reader_run 33 = .ok (.iconst 0, 1) := by decide +kernel
theorem d_Reader_run_34 : decode b_Reader_run 34 = .ok (.istore 4, 2) := by decide +kernel
theorem d_Reader_run_36 : decode b_Reader_run 36 = .ok (.iload 4, 2) := by decide +kernel
theorem d_Reader_run_38 : decode b_Reader_run 38 = .ok (.sipush 300, 3) := by decide +kernel
theorem d_Reader_run_41 : decode b_Reader_run 41 = .ok (.if_icmp .ge 32, 3) := by decide +kernel
theorem d_Reader_run_44 : decode b_Reader_run 44 = .ok (.aload_n 0, 1) := by decide +kernel
theorem d_Reader_run_45 : decode b_Reader_run 45 = .ok (.invokevirtual 30, 3) := by decide +kernel
theorem d_Reader_run_48 : decode b_Reader_run 48 = .ok (.ifCond .eq 25, 3) := by decide +kernel
theorem d_Reader_run_51 : decode b_Reader_run 51 = .ok (.aload_n 1, 1) := by decide +kernel
theorem d_Reader_run_52 : decode b_Reader_run 52 = .ok (.invokevirtual 40, 3) := by decide +kernel
theorem d_Reader_run_55 : decode b_Reader_run 55 = .ok (.i2l, 1) := by decide +kernel
theorem d_Reader_run_56 : decode b_Reader_run 56 = .ok (.lload_n 2, 1) := by decide +kernel
theorem d_Reader_run_57 : decode b_Reader_run 57 = .ok (.lcmp, 1) := by decide +kernel
theorem d_Reader_run_58 : decode b_Reader_run 58 = .ok (.ifCond .ge 15, 3) := by decide +kernel
theorem d_Reader_run_61 : decode b_Reader_run 61 = .ok (.aload_n 0, 1) := by decide +kernel
theorem d_Reader_run_62 : decode b_Reader_run 62 = .ok (.aload_n 1, 1) := by decide +kernel
theorem d_Reader_run_63 : decode b_Reader_run 63 = .ok (.lload_n 2, 1) := by decide +kernel
theorem d_Reader_run_64 : decode b_Reader_run 64 = .ok (.invokevirtual 46, 3) := by decide +kernel
theorem d_Reader_run_67 : decode b_Reader_run 67 = .ok (.iinc 4 1, 3) := by decide +kernel
theorem d_Reader_run_70 : decode b_Reader_run 70 = .ok (.goto (-34), 3) := by decide +kernel
theorem d_Reader_run_73 : decode b_Reader_run 73 = .ok (.aload_n 0, 1) := by decide +kernel
theorem d_Reader_run_74 : decode b_Reader_run 74 = .ok (.invokevirtual 30, 3) := by decide +kernel
theorem d_Reader_run_77 : decode b_Reader_run 77 = .ok (.ifCond .eq 27, 3) := by decide +kernel
theorem d_Reader_run_80 : decode b_Reader_run 80 = .ok (.aload_n 0, 1) := by decide +kernel
theorem d_Reader_run_81 : decode b_Reader_run 81 = .ok (.getfield 50, 3) := by decide +kernel
theorem d_Reader_run_84 : decode b_Reader_run 84 = .ok (.aload_n 0, 1) := by decide +kernel
theorem d_Reader_run_85 : decode b_Reader_run 85 = .ok (.getfield 18, 3) := by decide +kernel
theorem d_Reader_run_88 : decode b_Reader_run 88 = .ok (.invokevirtual 54, 3) := by decide +kernel
theorem d_Reader_run_91 : decode b_Reader_run 91 = .ok (.if_icmp .ge 13, 3) := by decide +kernel
theorem d_Reader_run_94 : decode b_Reader_run 94 = .ok (.aload_n 0, 1) := by decide +kernel
theorem d_Reader_run_95 : decode b_Reader_run 95 = .ok (.bipush 7, 2) := by decide +kernel
theorem d_Reader_run_97 : decode b_Reader_run 97 = .ok (.aload_n 0, 1) := by decide +kernel
theorem d_Reader_run_98 : decode b_Reader_run 98 = .ok (.getfield 50, 3) := by decide +kernel
theorem d_Reader_run_101 : decode b_Reader_run 101 = .ok (.invokevirtual 36, 3) := by decide +kernel
theorem d_Reader_run_104 : decode b_Reader_run 104 = .ok (.aload_n 0, 1) := by decide +kernel
theorem d_Reader_run_105 : decode b_Reader_run 105 = .ok (.invokevirtual 30, 3) := by decide +kernel
theorem d_Reader_run_108 : decode b_Reader_run 108 = .ok (.ifCond .eq 10, 3) := by decide +kernel
theorem d_Reader_run_111 : decode b_Reader_run 111 = .ok (.aload_n 1, 1) := by decide +kernel
theorem d_Reader_run_112 : decode b_Reader_run 112 = .ok (.invokevirtual 40, 3) := by decide +kernel
theorem d_Reader_run_115 : decode b_Reader_run 115 = .ok (.goto 17, 3) := by decide +kernel
theorem d_Reader_run_118 : decode b_Reader_run 118 = .ok (.iconst (-1), 1) := by decide +kernel
theorem d_Reader_run_119 : decode b_Reader_run 119 = .ok (.aload_n 0, 1) := by decide +kernel
theorem d_Reader_run_120 : decode b_Reader_run 120 = .ok (.getfield 59, 3) := by decide +kernel
theorem d_Reader_run_123 : decode b_Reader_run 123 = .ok (.bipush 8, 2) := by decide +kernel
theorem d_Reader_run_125 : decode b_Reader_run 125 = .ok (.aload_n 0, 1) := by decide +kernel
theorem d_Reader_run_126 : decode b_Reader_run 126 = .ok (.getfield 62, 3) := by decide +kernel
theorem d_Reader_run_129 : decode b_Reader_run 129 = .ok (.imul, 1) := by decide +kernel
theorem d_Reader_run_130 : decode b_Reader_run 130 = .ok (.iadd, 1) := by decide +kernel
theorem d_Reader_run_131 : decode b_Reader_run 131 = .ok (.isub, 1) := by decide +kernel
theorem d_Reader_run_132 : decode b_Reader_run 132 = .ok (.ireturn, 1) := by decide +kernel
theorem d_Reader_begin_0 : decode b_Reader_begin 0 = .ok (.aload_n 1, 1) := by decide +kernel
theorem d_Reader_begin_1 : decode b_Reader_begin 1 = .ok (.iconst 0, 1) := by decide +kernel
theorem d_Reader_begin_2 : decode b_Reader_begin 2 = .ok (.invokevirtual 65, 3) := by decide +kernel
theorem d_Reader_begin_5 : decode b_Reader_begin 5 = .ok (.aload_n 0, 1) := by decide +kernel
theorem d_Reader_begin_6 : decode b_Reader_begin 6 = .ok (.getfield 12, 3) := by decide +kernel
theorem d_Reader_begin_9 : decode b_Reader_begin 9 = .ok (.invokevirtual 69, 3) := by decide +kernel
theorem d_Reader_begin_12 : decode b_Reader_begin 12 = .ok (.aload_n 0, 1) := by decide +kernel
theorem d_Reader_begin_13 : decode b_Reader_begin 13 = .ok (.iconst 0, 1) := by decide +kernel
theorem d_Reader_begin_14 : decode b_Reader_begin 14 = .ok (.putfield 50, 3) := by decide +kernel
theorem d_Reader_begin_17 : decode b_Reader_begin 17 = .ok (.aload_n 0, 1) := by decide +kernel
theorem d_Reader_begin_18 : decode b_Reader_begin 18 = .ok (.iconst 0, 1) := by decide +kernel
theorem d_Reader_begin_19 : decode b_Reader_begin 19 = .ok (.putfield 59, 3) := by decide +kernel
theorem d_Reader_begin_22 : decode b_Reader_begin 22 = .ok (.aload_n 0, 1) := by decide +kernel
theorem d_Reader_begin_23 : decode b_Reader_begin 23 = .ok (.iconst 0, 1) := by decide +kernel
theorem d_Reader_begin_24 : decode b_Reader_begin 24 = .ok (.putfield 62, 3) := by decide +kernel
theorem d_Reader_begin_27 : decode b_Reader_begin 27 = .ok (.return_, 1) := by decide +kernel
theorem d_Reader_isFine_0 : decode b_Reader_isFine 0 = .ok (.aload_n 0, 1) := by decide +kernel
theorem d_Reader_isFine_1 : decode b_Reader_isFine 1 = .ok (.getfield 59, 3) := by decide +kernel
theorem d_Reader_isFine_4 : decode b_Reader_isFine 4 = .ok (.ifCond .ne 7, 3) := by decide +kernel
theorem d_Reader_isFine_7 : decode b_Reader_isFine 7 = .ok (.iconst 1, 1) := by decide +kernel
theorem d_Reader_isFine_8 : decode b_Reader_isFine 8 = .ok (.goto 4, 3) := by decide +kernel
theorem d_Reader_isFine_11 : decode b_Reader_isFine 11 = .ok (.iconst 0, 1) := by decide +kernel
theorem d_Reader_isFine_12 : decode b_Reader_isFine 12 = .ok (.ireturn, 1) := by decide +kernel
theorem d_Reader_fail_0 : decode b_Reader_fail 0 = .ok (.aload_n 0, 1) := by decide +kernel
theorem d_Reader_fail_1 : decode b_Reader_fail 1 = .ok (.iload_n 1, 1) := by decide +kernel
theorem d_Reader_fail_2 : decode b_Reader_fail 2 = .ok (.putfield 59, 3) := by decide +kernel
theorem d_Reader_fail_5 : decode b_Reader_fail 5 = .ok (.aload_n 0, 1) := by decide +kernel
theorem d_Reader_fail_6 : decode b_Reader_fail 6 = .ok (.iload_n 2, 1) := by decide +kernel
theorem d_Reader_fail_7 : decode b_Reader_fail 7 = .ok (.putfield 62, 3) := by decide +kernel
theorem d_Reader_fail_10 : decode b_Reader_fail 10 = .ok (.return_, 1) := by decide +kernel
theorem d_Reader_readEntry_0 : decode b_Reader_readEntry 0 = .ok (.aload_n 0, 1) := by decide +kernel
theorem d_Reader_readEntry_1 : decode b_Reader_readEntry 1 = .ok (.getfield 50, 3) := by decide +kernel
theorem d_Reader_readEntry_4 : decode b_Reader_readEntry 4 = .ok (.istore 4, 2) := by decide +kernel
theorem d_Reader_readEntry_6 : decode b_Reader_readEntry 6 = .ok (.aload_n 0, 1) := by decide +kernel
theorem d_Reader_readEntry_7 : decode b_Reader_readEntry 7 = .ok (.invokevirtual 72, 3) := by decide +kernel
theorem d_Reader_readEntry_10 : decode b_Reader_readEntry 10 = .ok (.istore 5, 2) := by decide +kernel
theorem d_Reader_readEntry_12 : decode b_Reader_readEntry 12 = .ok (.aload_n 0, 1) := by decide +kernel
theorem d_Reader_readEntry_13 : decode b_Reader_readEntry 13 = .ok (.invokevirtual 30, 3) := by decide +kernel
theorem d_Reader_readEntry_16 : decode b_Reader_readEntry 16 = .ok (.ifCond .eq 18, 3) := by decide +kernel
theorem d_Reader_readEntry_19 : decode b_Reader_readEntry 19 = .ok (.iload 5, 2) := by decide +kernel
theorem d_Reader_readEntry_21 : decode b_Reader_readEntry 21 = .ok (.invokestatic 75, 3) := by decide +kernel
theorem d_Reader_readEntry_24 : decode b_Reader_readEntry 24 = .ok (.ifCond .ne 10, 3) := by decide +kernel
theorem d_Reader_readEntry_27 : decode b_Reader_readEntry 27 = .ok (.aload_n 0, 1) := by decide +kernel
theorem d_Reader_readEntry_28 : decode b_Reader_readEntry 28 = .ok (.iconst 1, 1) := by decide +kernel
theorem d_Reader_readEntry_29 : decode b_Reader_readEntry 29 = .ok (.iload 4, 2) := by decide +kernel
theorem d_Reader_readEntry_31 : decode b_Reader_readEntry 31 = .ok (.invokevirtual 36, 3) := by decide +kernel
theorem d_Reader_readEntry_34 : decode b_Reader_readEntry 34 = .ok (.aload_n 0, 1) := by decide +kernel
theorem d_Reader_readEntry_35 : decode b_Reader_readEntry 35 = .ok (.invokevirtual 30, 3) := by decide +kernel
theorem d_Reader_readEntry_38 : decode b_Reader_readEntry 38 = .ok (.ifCond .ne 4, 3) := by decide +kernel
theorem d_Reader_readEntry_41 : decode b_Reader_readEntry 41 = .ok (.return_, 1) := by decide +kernel
theorem d_Reader_readEntry_42 : decode b_Reader_readEntry 42 = .ok (.iload 5, 2) := by decide +kernel
theorem d_Reader_readEntry_44 : decode b_Reader_readEntry 44 = .ok (.bipush 7, 2) := by decide +kernel
theorem d_Reader_readEntry_46 : decode b_Reader_readEntry 46 = .ok (.iand, 1) := by decide +kernel
theorem d_Reader_readEntry_47 : decode b_Reader_readEntry 47 = .ok (.istore 6, 2) := by decide +kernel
theorem d_Reader_readEntry_49 : decode b_Reader_readEntry 49 = .ok (.iload 5, 2) := by decide +kernel
theorem d_Reader_readEntry_51 : decode b_Reader_readEntry 51 = .ok (.iconst 4, 1) := by decide +kernel
theorem d_Reader_readEntry_52 : decode b_Reader_readEntry 52 = .ok (.ishr, 1) := by decide +kernel
theorem d_Reader_readEntry_53 : decode b_Reader_readEntry 53 = .ok (.istore 7, 2) := by decide +kernel
theorem d_Reader_readEntry_55 : decode b_Reader_readEntry 55 = .ok (.iload 6, 2) := by decide +kernel
theorem d_Reader_readEntry_57 : decode b_Reader_readEntry 57 = .ok (.iconst 5, 1) := by decide +kernel
theorem d_Reader_readEntry_58 : decode b_Reader_readEntry 58 = .ok (.if_icmp .ne 14, 3) := by decide +kernel
theorem d_Reader_readEntry_61 : decode b_Reader_readEntry 61 = .ok (.aload_n 0, 1) := by decide +kernel
theorem d_Reader_readEntry_62 : decode b_Reader_readEntry 62 = .ok (.aload_n 1, 1) := by decide +kernel
theorem d_Reader_readEntry_63 : decode b_Reader_readEntry 63 = .ok (.lload_n 2, 1) := by decide +kernel
theorem d_Reader_readEntry_64 : decode b_Reader_readEntry 64 = .ok (.iload 7, 2) := by decide +kernel
theorem d_Reader_readEntry_66 : decode b_Reader_readEntry 66 = .ok (.iload 4, 2) := by decide +kernel
theorem d_Reader_readEntry_68 : decode b_Reader_readEntry 68 = .ok (.invokevirtual 79, 3) := by decide +kernel
theorem d_Reader_readEntry_71 : decode b_Reader_readEntry 71 = .ok (.return_, 1) := by decide +kernel
theorem d_Reader_readEntry_72 : decode b_Reader_readEntry 72 = .ok (.iload 5, 2) := by decide +kernel
theorem d_Reader_readEntry_74 : decode b_Reader_readEntry 74 = .ok (.bipush 8, 2) := by decide +kernel
theorem d_Reader_readEntry_76 : decode b_Reader_readEntry 76 = .ok (.iand, 1) := by decide +kernel
theorem d_Reader_readEntry_77 : decode b_Reader_readEntry 77 = .ok (.ifCond .eq 7, 3) := by decide +kernel
theorem d_Reader_readEntry_80 : decode b_Reader_readEntry 80 = .ok (.iconst 1, 1) := by decide +kernel
theorem d_Reader_readEntry_81 : decode b_Reader_readEntry 81 = .ok (.goto 4, 3) := by decide +kernel
theorem d_Reader_readEntry_84 : decode b_Reader_readEntry 84 = .ok (.iconst 0, 1) := by decide +kernel
theorem d_Reader_readEntry_85 : decode b_Reader_readEntry 85 = .ok (.istore 8, 2) := by decide +kernel
theorem d_Reader_readEntry_87 : decode b_Reader_readEntry 87 = .ok (.iload 8, 2) := by decide +kernel
theorem d_Reader_readEntry_89 : decode b_Reader_readEntry 89 = .ok (.ifCond .eq 16, 3) := by decide +kernel
theorem d_Reader_readEntry_92 : decode b_Reader_readEntry 92 = .ok (.aload_n 1, 1) := by decide +kernel
theorem d_Reader_readEntry_93 : decode b_Reader_readEntry 93 = .ok (.aload_n 1, 1) := by decide +kernel
theorem d_Reader_readEntry_94 : decode b_Reader_readEntry 94 = .ok (.invokevirtual 40, 3) := by decide +kernel
theorem d_Reader_readEntry_97 : decode b_Reader_readEntry 97 = .ok (.iconst 1, 1) := by decide +kernel
theorem d_Reader_readEntry_98 : decode b_Reader_readEntry 98 = .ok (.isub, 1) := by decide +kernel
theorem d_Reader_readEntry_99 : decode b_Reader_readEntry 99 = .ok (.invokevirtual 83, 3) := by decide +kernel
theorem d_Reader_readEntry_102 : decode b_Reader_readEntry 102 = .ok (.goto 8, 3) := by decide +kernel
theorem d_Reader_readEntry_105 : decode b_Reader_readEntry 105 = .ok (.aload_n 0, 1) := by decide +kernel
theorem d_Reader_readEntry_106 : decode b_Reader_readEntry 106 = .ok (.iconst 0, 1) := by decide +kernel
theorem d_Reader_readEntry_107 : decode b_Reader_readEntry 107 = .ok (.invokevirtual 26, 3) := by decide +kernel
theorem d_Reader_readEntry_110 : decode b_Reader_readEntry 110 = .ok (.lstore 9, 2) := by decide +kernel
theorem d_Reader_readEntry_112 : decode b_Reader_readEntry 112 = .ok (.aload_n 0, 1) := by decide +kernel
theorem d_Reader_readEntry_113 : decode b_Reader_readEntry 113 = .ok (.invokevirtual 30, 3) := by decide +kernel
theorem d_Reader_readEntry_116 : decode b_Reader_readEntry 116 = .ok (.ifCond .ne 4, 3) := by decide +kernel
theorem d_Reader_readEntry_119 : decode b_Reader_readEntry 119 = .ok (.return_, 1) := by decide +kernel
theorem d_Reader_readEntry_120 : decode b_Reader_readEntry 120 = .ok (.iload 6, 2) := by decide +kernel
theorem d_Reader_readEntry_122 : decode b_Reader_readEntry 122 = .ok (.iload 7, 2) := by decide +kernel
theorem d_Reader_readEntry_124 : decode b_Reader_readEntry 124 = .ok (.invokestatic 86, 3) := by decide +kernel
theorem d_Reader_readEntry_127 : decode b_Reader_readEntry 127 = .ok (.ifCond .eq 17, 3) := by decide +kernel
theorem d_Reader_readEntry_130 : decode b_Reader_readEntry 130 = .ok (.aload_n 0, 1) := by decide +kernel
theorem d_Reader_readEntry_131 : decode b_Reader_readEntry 131 = .ok (.aload_n 1, 1) := by decide +kernel
theorem d_Reader_readEntry_132 : decode b_Reader_readEntry 132 = .ok (.iload 6, 2) := by decide +kernel
theorem d_Reader_readEntry_134 : decode b_Reader_readEntry 134 = .ok (.lload 9, 2) := by decide +kernel
theorem d_Reader_readEntry_136 : decode b_Reader_readEntry 136 = .ok (.iload 4, 2) := by decide +kernel
theorem d_Reader_readEntry_138 : decode b_Reader_readEntry 138 = .ok (.invokevirtual 90, 3) := by decide +kernel
theorem d_Reader_readEntry_141 : decode b_Reader_readEntry 141 = .ok (.goto 14, 3) := by decide +kernel
theorem d_Reader_readEntry_144 : decode b_Reader_readEntry 144 = .ok (.aload_n 0, 1) := by decide +kernel
theorem d_Reader_readEntry_145 : decode b_Reader_readEntry 145 = .ok (.aload_n 1, 1) := by decide +kernel
theorem d_Reader_readEntry_146 : decode b_Reader_readEntry 146 = .ok (.iload 6, 2) := by decide +kernel
theorem d_Reader_readEntry_148 : decode b_Reader_readEntry 148 = .ok (.lload 9, 2) := by decide +kernel
theorem d_Reader_readEntry_150 : decode b_Reader_readEntry 150 = .ok (.iload 7, 2) := by decide +kernel
theorem d_Reader_readEntry_152 : decode b_Reader_readEntry 152 = .ok (.invokevirtual 94, 3) := by decide +kernel
theorem d_Reader_readEntry_155 : decode b_Reader_readEntry 155 = .ok (.return_, 1) := by decide +kernel
theorem d_Reader_isHead_0 : decode b_Reader_isHead 0 = .ok (.iload_n 0, 1) := by decide +kernel
theorem d_Reader_isHead_1 : decode b_Reader_isHead 1 = .ok (.iconst 4, 1) := by decide +kernel
theorem d_Reader_isHead_2 : decode b_Reader_isHead 2 = .ok (.ishr, 1) := by decide +kernel
theorem d_Reader_isHead_3 : decode b_Reader_isHead 3 = .ok (.istore_n 1, 1) := by decide +kernel
theorem d_Reader_isHead_4 : decode b_Reader_isHead 4 = .ok (.iload_n 0, 1) := by decide +kernel
theorem d_Reader_isHead_5 : decode b_Reader_isHead 5 = .ok (.bipush 7, 2) := by decide +kernel
theorem d_Reader_isHead_7 : decode b_Reader_isHead 7 = .ok (.iand, 1) := by decide +kernel
theorem d_Reader_isHead_8 : decode b_Reader_isHead 8 = .ok (.tableswitch 88 0 5 #[40, 42, 40, 54, 65, 75], 40) := by decide +kernel
theorem d_Reader_isHead_48 : decode b_Reader_isHead 48 = .ok (.iconst 1, 1) := by decide +kernel
theorem d_Reader_isHead_49 : decode b_Reader_isHead 49 = .ok (.ireturn, 1) := by decide +kernel
theorem d_Reader_isHead_50 : decode b_Reader_isHead 50 = .ok (.iload_n 1, 1) := by decide +kernel
theorem d_Reader_isHead_51 : decode b_Reader_isHead 51 = .ok (.bipush 8, 2) := by decide +kernel
theorem d_Reader_isHead_53 : decode b_Reader_isHead 53 = .ok (.if_icmp .gt 7, 3) := by decide +kernel
theorem d_Reader_isHead_56 : decode b_Reader_isHead 56 = .ok (.iconst 1, 1) := by decide +kernel
theorem d_Reader_isHead_57 : decode b_Reader_isHead 57 = .ok (.goto 4, 3) := by decide +kernel
theorem d_Reader_isHead_60 : decode b_Reader_isHead 60 = .ok (.iconst 0, 1) := by decide +kernel
theorem d_Reader_isHead_61 : decode b_Reader_isHead 61 = .ok (.ireturn, 1) := by decide +kernel
theorem d_Reader_isHead_62 : decode b_Reader_isHead 62 = .ok (.iload_n 1, 1) := by decide +kernel
theorem d_Reader_isHead_63 : decode b_Reader_isHead 63 = .ok (.iconst 1, 1) := by decide +kernel
theorem d_Reader_isHead_64 : decode b_Reader_isHead 64 = .ok (.if_icmp .gt 7, 3) := by decide +kernel
theorem d_Reader_isHead_67 : decode b_Reader_isHead 67 = .ok (.iconst 1, 1) := by decide +kernel
theorem d_Reader_isHead_68 : decode b_Reader_isHead 68 = .ok (.goto 4, 3) := by decide +kernel
theorem d_Reader_isHead_71 : decode b_Reader_isHead 71 = .ok (.iconst 0, 1) := by decide +kernel
theorem d_Reader_isHead_72 : decode b_Reader_isHead 72 = .ok (.ireturn, 1) := by decide +kernel
theorem d_Reader_isHead_73 : decode b_Reader_isHead 73 = .ok (.iload_n 1, 1) := by decide +kernel
theorem d_Reader_isHead_74 : decode b_Reader_isHead 74 = .ok (.ifCond .ne 7, 3) := by decide +kernel
theorem d_Reader_isHead_77 : decode b_Reader_isHead 77 = .ok (.iconst 1, 1) := by decide +kernel
theorem d_Reader_isHead_78 : decode b_Reader_isHead 78 = .ok (.goto 4, 3) := by decide +kernel
theorem d_Reader_isHead_81 : decode b_Reader_isHead 81 = .ok (.iconst 0, 1) := by decide +kernel
theorem d_Reader_isHead_82 : decode b_Reader_isHead 82 = .ok (.ireturn, 1) := by decide +kernel
theorem d_Reader_isHead_83 : decode b_Reader_isHead 83 = .ok (.iload_n 0, 1) := by decide +kernel
theorem d_Reader_isHead_84 : decode b_Reader_isHead 84 = .ok (.bipush 8, 2) := by decide +kernel
theorem d_Reader_isHead_86 : decode b_Reader_isHead 86 = .ok (.iand, 1) := by decide +kernel
theorem d_Reader_isHead_87 : decode b_Reader_isHead 87 = .ok (.ifCond .ne 7, 3) := by decide +kernel
theorem d_Reader_isHead_90 : decode b_Reader_isHead 90 = .ok (.iconst 1, 1) := by decide +kernel
theorem d_Reader_isHead_91 : decode b_Reader_isHead 91 = .ok (.goto 4, 3) := by decide +kernel
theorem d_Reader_isHead_94 : decode b_Reader_isHead 94 = .ok (.iconst 0, 1) := by decide +kernel
theorem d_Reader_isHead_95 : decode b_Reader_isHead 95 = .ok (.ireturn, 1) := by decide +kernel
theorem d_Reader_isHead_96 : decode b_Reader_isHead 96 = .ok (.iconst 0, 1) := by decide +kernel
theorem d_Reader_isHead_97 : decode b_Reader_isHead 97 = .ok (.ireturn, 1) := by decide +kernel
theorem d_Reader_readRun_0 : decode b_Reader_readRun 0 = .ok (.aload_n 1, 1) := by decide +kernel
theorem d_Reader_readRun_1 : decode b_Reader_readRun 1 = .ok (.invokevirtual 40, 3) := by decide +kernel
theorem d_Reader_readRun_4 : decode b_Reader_readRun 4 = .ok (.iconst 1, 1) := by decide +kernel
theorem d_Reader_readRun_5 : decode b_Reader_readRun 5 = .ok (.isub, 1) := by decide +kernel
theorem d_Reader_readRun_6 : decode b_Reader_readRun 6 = .ok (.istore 6, 2) := by decide +kernel
theorem d_Reader_readRun_8 : decode b_Reader_readRun 8 = .ok (.iload 6, 2) := by decide +kernel
theorem d_Reader_readRun_10 : decode b_Reader_readRun 10 = .ok (.ifCond .ge 11, 3) := by decide +kernel
theorem d_Reader_readRun_13 : decode b_Reader_readRun 13 = .ok (.aload_n 0, 1) := by decide +kernel
theorem d_Reader_readRun_14 : decode b_Reader_readRun 14 = .ok (.iconst 4, 1) := by decide +kernel
theorem d_Reader_readRun_15 : decode b_Reader_readRun 15 = .ok (.iload 5, 2) := by decide +kernel
theorem d_Reader_readRun_17 : decode b_Reader_readRun 17 = .ok (.invokevirtual 36, 3) := by decide +kernel
theorem d_Reader_readRun_20 : decode b_Reader_readRun 20 = .ok (.return_, 1) := by decide +kernel
theorem d_Reader_readRun_21 : decode b_Reader_readRun 21 = .ok (.iload 4, 2) := by decide +kernel
theorem d_Reader_readRun_23 : decode b_Reader_readRun 23 = .ok (.ifCond .ne 11, 3) := by decide +kernel
theorem d_Reader_readRun_26 : decode b_Reader_readRun 26 = .ok (.aload_n 0, 1) := by decide +kernel
theorem d_Reader_readRun_27 : decode b_Reader_readRun 27 = .ok (.iconst 1, 1) := by decide +kernel
theorem d_Reader_readRun_28 : decode b_Reader_readRun 28 = .ok (.invokevirtual 26, 3) := by decide +kernel
theorem d_Reader_readRun_31 : decode b_Reader_readRun 31 = .ok (.goto 6, 3) := by decide +kernel
theorem d_Reader_readRun_34 : decode b_Reader_readRun 34 = .ok (.iload 4, 2) := by decide +kernel
theorem d_Reader_readRun_36 : decode b_Reader_readRun 36 = .ok (.i2l, 1) := by decide +kernel
theorem d_Reader_readRun_37 : decode b_Reader_readRun 37 = .ok (.lstore 7, 2) := by decide +kernel
theorem d_Reader_readRun_39 : decode b_Reader_readRun 39 = .ok (.aload_n 0, 1) := by decide +kernel
theorem d_Reader_readRun_40 : decode b_Reader_readRun 40 = .ok (.invokevirtual 30, 3) := by decide +kernel
theorem d_Reader_readRun_43 : decode b_Reader_readRun 43 = .ok (.ifCond .eq 24, 3) := by decide +kernel
theorem d_Reader_readRun_46 : decode b_Reader_readRun 46 = .ok (.lload 7, 2) := by decide +kernel
theorem d_Reader_readRun_48 : decode b_Reader_readRun 48 = .ok (.lload_n 2, 1) := by decide +kernel
theorem d_Reader_readRun_49 : decode b_Reader_readRun 49 = .ok (.aload_n 1, 1) := by decide +kernel
theorem d_Reader_readRun_50 : decode b_Reader_readRun 50 = .ok (.invokevirtual 40, 3) := by decide +kernel
theorem d_Reader_readRun_53 : decode b_Reader_readRun 53 = .ok (.i2l, 1) := by decide +kernel
theorem d_Reader_readRun_54 : decode b_Reader_readRun 54 = .ok (.lsub, 1) := by decide +kernel
theorem d_Reader_readRun_55 : decode b_Reader_readRun 55 = .ok (.lcmp, 1) := by decide +kernel
theorem d_Reader_readRun_56 : decode b_Reader_readRun 56 = .ok (.ifCond .le 11, 3) := by decide +kernel
theorem d_Reader_readRun_59 : decode b_Reader_readRun 59 = .ok (.aload_n 0, 1) := by decide +kernel
theorem d_Reader_readRun_60 : decode b_Reader_readRun 60 = .ok (.bipush 6, 2) := by decide +kernel
theorem d_Reader_readRun_62 : decode b_Reader_readRun 62 = .ok (.iload 5, 2) := by decide +kernel
theorem d_Reader_readRun_64 : decode b_Reader_readRun 64 = .ok (.invokevirtual 36, 3) := by decide +kernel
theorem d_Reader_readRun_67 : decode b_Reader_readRun 67 = .ok (.aload_n 0, 1) := by decide +kernel
theorem d_Reader_readRun_68 : decode b_Reader_readRun 68 = .ok (.invokevirtual 30, 3) := by decide +kernel
theorem d_Reader_readRun_71 : decode b_Reader_readRun 71 = .ok (.ifCond .ne 4, 3) := by decide +kernel
theorem d_Reader_readRun_74 : decode b_Reader_readRun 74 = .ok (.return_, 1) := by decide +kernel
theorem d_Reader_readRun_75 : decode b_Reader_readRun 75 = .ok (.iconst 0, 1) := by decide +kernel
theorem d_Reader_readRun_76 : decode b_Reader_readRun 76 = .ok (.istore 9, 2) := by decide +kernel
theorem d_Reader_readRun_78 : decode b_Reader_readRun 78 = .ok (.iload 9, 2) := by decide +kernel
theorem d_Reader_readRun_80 : decode b_Reader_readRun 80 = .ok (.i2l, 1) := by decide +kernel
theorem d_Reader_readRun_81 : decode b_Reader_readRun 81 = .ok (.lload 7, 2) := by decide +kernel
theorem d_Reader_readRun_83 : decode b_Reader_readRun 83 = .ok (.lcmp, 1) := by decide +kernel
theorem d_Reader_readRun_84 : decode b_Reader_readRun 84 = .ok (.ifCond .ge 46, 3) := by decide +kernel
theorem d_Reader_readRun_87 : decode b_Reader_readRun 87 = .ok (.iload 9, 2) := by decide +kernel
theorem d_Reader_readRun_89 : decode b_Reader_readRun 89 = .ok (.sipush 300, 3) := by decide +kernel
theorem d_Reader_readRun_92 : decode b_Reader_readRun 92 = .ok (.if_icmp .ge 38, 3) := by decide +kernel
theorem d_Reader_readRun_95 : decode b_Reader_readRun 95 = .ok (.aload_n 0, 1) := by decide +kernel
theorem d_Reader_readRun_96 : decode b_Reader_readRun 96 = .ok (.aload_n 1, 1) := by decide +kernel
theorem d_Reader_readRun_97 : decode b_Reader_readRun 97 = .ok (.aload_n 1, 1) := by decide +kernel
theorem d_Reader_readRun_98 : decode b_Reader_readRun 98 = .ok (.iload 6, 2) := by decide +kernel
theorem d_Reader_readRun_100 : decode b_Reader_readRun 100 = .ok (.invokevirtual 97, 3) := by decide +kernel
theorem d_Reader_readRun_103 : decode b_Reader_readRun 103 = .ok (.aload_n 1, 1) := by decide +kernel
theorem d_Reader_readRun_104 : decode b_Reader_readRun 104 = .ok (.iload 6, 2) := by decide +kernel
theorem d_Reader_readRun_106 : decode b_Reader_readRun 106 = .ok (.invokevirtual 83, 3) := by decide +kernel
theorem d_Reader_readRun_109 : decode b_Reader_readRun 109 = .ok (.aload_n 1, 1) := by decide +kernel
theorem d_Reader_readRun_110 : decode b_Reader_readRun 110 = .ok (.iload 6, 2) := by decide +kernel
theorem d_Reader_readRun_112 : decode b_Reader_readRun 112 = .ok (.invokevirtual 101, 3) := by decide +kernel
theorem d_Reader_readRun_115 : decode b_Reader_readRun 115 = .ok (.aload_n 1, 1) := by decide +kernel
theorem d_Reader_readRun_116 : decode b_Reader_readRun 116 = .ok (.iload 6, 2) := by decide +kernel
theorem d_Reader_readRun_118 : decode b_Reader_readRun 118 = .ok (.invokevirtual 104, 3) := by decide +kernel
theorem d_Reader_readRun_121 : decode b_Reader_readRun 121 = .ok (.invokevirtual 107, 3) := by decide +kernel
theorem d_Reader_readRun_124 : decode b_Reader_readRun 124 = .ok (.iinc 9 1, 3) := by decide +kernel
theorem d_Reader_readRun_127 : decode b_Reader_readRun 127 = .ok (.goto (-49), 3) := by decide +kernel
theorem d_Reader_readRun_130 : decode b_Reader_readRun 130 = .ok (.return_, 1) := by decide +kernel
theorem d_Reader_isMeaningAnother_0 : decode b_Reader_isMeaningAnother 0 = .ok (.iload_n 0, 1) := by decide +kernel
theorem d_Reader_isMeaningAnother_1 : decode b_Reader_isMeaningAnother 1 = .ok (.iconst 1, 1) := by decide +kernel
theorem d_Reader_isMeaningAnother_2 : decode b_Reader_isMeaningAnother 2 = .ok (.if_icmp .ne 7, 3) := by decide +kernel
theorem d_Reader_isMeaningAnother_5 : decode b_Reader_isMeaningAnother 5 = .ok (.iload_n 1, 1) := by decide +kernel
theorem d_Reader_isMeaningAnother_6 : decode b_Reader_isMeaningAnother 6 = .ok (.ifCond .eq 13, 3) := by decide +kernel
theorem d_Reader_isMeaningAnother_9 : decode b_Reader_isMeaningAnother 9 = .ok (.iload_n 0, 1) := by decide +kernel
theorem d_Reader_isMeaningAnother_10 : decode b_Reader_isMeaningAnother 10 = .ok (.iconst 3, 1) := by decide +kernel
theorem d_Reader_isMeaningAnother_11 : decode b_Reader_isMeaningAnother 11 = .ok (.if_icmp .ne 12, 3) := by decide +kernel
theorem d_Reader_isMeaningAnother_14 : decode b_Reader_isMeaningAnother 14 = .ok (.iload_n 1, 1) := by decide +kernel
theorem d_Reader_isMeaningAnother_15 : decode b_Reader_isMeaningAnother 15 = .ok (.iconst 1, 1) := by decide +kernel
theorem d_Reader_isMeaningAnother_16 : decode b_Reader_isMeaningAnother 16 = .ok (.if_icmp .ne 7, 3) := by decide +kernel
theorem d_Reader_isMeaningAnother_19 : decode b_Reader_isMeaningAnother 19 = .ok (.iconst 1, 1) := by decide +kernel
theorem d_Reader_isMeaningAnother_20 : decode b_Reader_isMeaningAnother 20 = .ok (.goto 4, 3) := by decide +kernel
theorem d_Reader_isMeaningAnother_23 : decode b_Reader_isMeaningAnother 23 = .ok (.iconst 0, 1) := by decide +kernel
theorem d_Reader_isMeaningAnother_24 : decode b_Reader_isMeaningAnother 24 = .ok (.ireturn, 1) := by decide +kernel
theorem d_Reader_readLikeAnother_0 : decode b_Reader_readLikeAnother 0 = .ok (.iload_n 2, 1) := by decide +kernel
theorem d_Reader_readLikeAnother_1 : decode b_Reader_readLikeAnother 1 = .ok (.iconst 3, 1) := by decide +kernel
theorem d_Reader_readLikeAnother_2 : decode b_Reader_readLikeAnother 2 = .ok (.if_icmp .ne 13, 3) := by decide +kernel
theorem d_Reader_readLikeAnother_5 : decode b_Reader_readLikeAnother 5 = .ok (.aload_n 0, 1) := by decide +kernel
theorem d_Reader_readLikeAnother_6 : decode b_Reader_readLikeAnother 6 = .ok (.getfield 12, 3) := by decide +kernel
theorem d_Reader_readLikeAnother_9 : decode b_Reader_readLikeAnother 9 = .ok (.invokevirtual 111, 3) := by decide +kernel
theorem d_Reader_readLikeAnother_12 : decode b_Reader_readLikeAnother 12 = .ok (.goto 15, 3) := by decide +kernel
theorem d_Reader_readLikeAnother_15 : decode b_Reader_readLikeAnother 15 = .ok (.aload_n 0, 1) := by decide +kernel
theorem d_Reader_readLikeAnother_16 : decode b_Reader_readLikeAnother 16 = .ok (.getfield 12, 3) := by decide +kernel
theorem d_Reader_readLikeAnother_19 : decode b_Reader_readLikeAnother 19 = .ok (.aload_n 0, 1) := by decide +kernel
theorem d_Reader_readLikeAnother_20 : decode b_Reader_readLikeAnother 20 = .ok (.iconst 1, 1) := by decide +kernel
theorem d_Reader_readLikeAnother_21 : decode b_Reader_readLikeAnother 21 = .ok (.invokevirtual 26, 3) := by decide +kernel
theorem d_Reader_readLikeAnother_24 : decode b_Reader_readLikeAnother 24 = .ok (.invokevirtual 114, 3) := by decide +kernel
theorem d_Reader_readLikeAnother_27 : decode b_Reader_readLikeAnother 27 = .ok (.istore 6, 2) := by decide +kernel
theorem d_Reader_readLikeAnother_29 : decode b_Reader_readLikeAnother 29 = .ok (.aload_n 0, 1) := by decide +kernel
theorem d_Reader_readLikeAnother_30 : decode b_Reader_readLikeAnother 30 = .ok (.invokevirtual 30, 3) := by decide +kernel
theorem d_Reader_readLikeAnother_33 : decode b_Reader_readLikeAnother 33 = .ok (.ifCond .eq 19, 3) := by decide +kernel
theorem d_Reader_readLikeAnother_36 : decode b_Reader_readLikeAnother 36 = .ok (.aload_n 1, 1) := by decide +kernel
theorem d_Reader_readLikeAnother_37 : decode b_Reader_readLikeAnother 37 = .ok (.iload 6, 2) := by decide +kernel
theorem d_Reader_readLikeAnother_39 : decode b_Reader_readLikeAnother 39 = .ok (.invokevirtual 118, 3) := by decide +kernel
theorem d_Reader_readLikeAnother_42 : decode b_Reader_readLikeAnother 42 = .ok (.ifCond .ne 10, 3) := by decide +kernel
theorem d_Reader_readLikeAnother_45 : decode b_Reader_readLikeAnother 45 = .ok (.aload_n 0, 1) := by decide +kernel
theorem d_Reader_readLikeAnother_46 : decode b_Reader_readLikeAnother 46 = .ok (.iconst 4, 1) := by decide +kernel
theorem d_Reader_readLikeAnother_47 : decode b_Reader_readLikeAnother 47 = .ok (.iload 5, 2) := by decide +kernel
theorem d_Reader_readLikeAnother_49 : decode b_Reader_readLikeAnother 49 = .ok (.invokevirtual 36, 3) := by decide +kernel
theorem d_Reader_readLikeAnother_52 : decode b_Reader_readLikeAnother 52 = .ok (.aload_n 0, 1) := by decide +kernel
theorem d_Reader_readLikeAnother_53 : decode b_Reader_readLikeAnother 53 = .ok (.invokevirtual 30, 3) := by decide +kernel
theorem d_Reader_readLikeAnother_56 : decode b_Reader_readLikeAnother 56 = .ok (.ifCond .eq 22, 3) := by decide +kernel
theorem d_Reader_readLikeAnother_59 : decode b_Reader_readLikeAnother 59 = .ok (.aload_n 0, 1) := by decide +kernel
theorem d_Reader_readLikeAnother_60 : decode b_Reader_readLikeAnother 60 = .ok (.aload_n 1, 1) := by decide +kernel
theorem d_Reader_readLikeAnother_61 : decode b_Reader_readLikeAnother 61 = .ok (.iload_n 2, 1) := by decide +kernel
theorem d_Reader_readLikeAnother_62 : decode b_Reader_readLikeAnother 62 = .ok (.lload_n 3, 1) := by decide +kernel
theorem d_Reader_readLikeAnother_63 : decode b_Reader_readLikeAnother 63 = .ok (.aload_n 1, 1) := by decide +kernel
theorem d_Reader_readLikeAnother_64 : decode b_Reader_readLikeAnother 64 = .ok (.iload 6, 2) := by decide +kernel
theorem d_Reader_readLikeAnother_66 : decode b_Reader_readLikeAnother 66 = .ok (.invokevirtual 101, 3) := by decide +kernel
theorem d_Reader_readLikeAnother_69 : decode b_Reader_readLikeAnother 69 = .ok (.aload_n 1, 1) := by decide +kernel
theorem d_Reader_readLikeAnother_70 : decode b_Reader_readLikeAnother 70 = .ok (.iload 6, 2) := by decide +kernel
theorem d_Reader_readLikeAnother_72 : decode b_Reader_readLikeAnother 72 = .ok (.invokevirtual 104, 3) := by decide +kernel
theorem d_Reader_readLikeAnother_75 : decode b_Reader_readLikeAnother 75 = .ok (.invokevirtual 107, 3) := by decide +kernel
theorem d_Reader_readLikeAnother_78 : decode b_Reader_readLikeAnother 78 = .ok (.return_, 1) := by decide +kernel
theorem d_Reader_readOwn_0 : decode b_Reader_readOwn 0 = .ok (.iload 5, 2) := by decide +kernel
theorem d_Reader_readOwn_2 : decode b_Reader_readOwn 2 = .ok (.i2l, 1) := by decide +kernel
theorem d_Reader_readOwn_3 : decode b_Reader_readOwn 3 = .ok (.lstore 6, 2) := by decide +kernel
theorem d_Reader_readOwn_5 : decode b_Reader_readOwn 5 = .ok (.iconst 0, 1) := by decide +kernel
theorem d_Reader_readOwn_6 : decode b_Reader_readOwn 6 = .ok (.istore 8, 2) := by decide +kernel
theorem d_Reader_readOwn_8 : decode b_Reader_readOwn 8 = .ok (.iload_n 2, 1) := by decide +kernel
theorem d_Reader_readOwn_9 : decode b_Reader_readOwn 9 = .ok (.tableswitch 75 1 4 #[31, 46, 55, 65], 31) := by decide +kernel
theorem d_Reader_readOwn_40 : decode b_Reader_readOwn 40 = .ok (.aload_n 0, 1) := by decide +kernel
theorem d_Reader_readOwn_41 : decode b_Reader_readOwn 41 = .ok (.iload 5, 2) := by decide +kernel
theorem d_Reader_readOwn_43 : decode b_Reader_readOwn 43 = .ok (.invokevirtual 121, 3) := by decide +kernel
theorem d_Reader_readOwn_46 : decode b_Reader_readOwn 46 = .ok (.lstore 6, 2) := by decide +kernel
theorem d_Reader_readOwn_48 : decode b_Reader_readOwn 48 = .ok (.iload 5, 2) := by decide +kernel
theorem d_Reader_readOwn_50 : decode b_Reader_readOwn 50 = .ok (.istore 8, 2) := by decide +kernel
theorem d_Reader_readOwn_52 : decode b_Reader_readOwn 52 = .ok (.goto 32, 3) := by decide +kernel
theorem d_Reader_readOwn_55 : decode b_Reader_readOwn 55 = .ok (.aload_n 0, 1) := by decide +kernel
theorem d_Reader_readOwn_56 : decode b_Reader_readOwn 56 = .ok (.invokevirtual 124, 3) := by decide +kernel
theorem d_Reader_readOwn_59 : decode b_Reader_readOwn 59 = .ok (.istore 8, 2) := by decide +kernel
theorem d_Reader_readOwn_61 : decode b_Reader_readOwn 61 = .ok (.goto 23, 3) := by decide +kernel
theorem d_Reader_readOwn_64 : decode b_Reader_readOwn 64 = .ok (.aload_n 0, 1) := by decide +kernel
theorem d_Reader_readOwn_65 : decode b_Reader_readOwn 65 = .ok (.iconst 0, 1) := by decide +kernel
theorem d_Reader_readOwn_66 : decode b_Reader_readOwn 66 = .ok (.invokevirtual 26, 3) := by decide +kernel
theorem d_Reader_readOwn_69 : decode b_Reader_readOwn 69 = .ok (.lstore 6, 2) := by decide +kernel
theorem d_Reader_readOwn_71 : decode b_Reader_readOwn 71 = .ok (.goto 13, 3) := by decide +kernel
theorem d_Reader_readOwn_74 : decode b_Reader_readOwn 74 = .ok (.aload_n 0, 1) := by decide +kernel
theorem d_Reader_readOwn_75 : decode b_Reader_readOwn 75 = .ok (.iconst 4, 1) := by decide +kernel
theorem d_Reader_readOwn_76 : decode b_Reader_readOwn 76 = .ok (.invokevirtual 121, 3) := by decide +kernel
theorem d_Reader_readOwn_79 : decode b_Reader_readOwn 79 = .ok (.lstore 6, 2) := by decide +kernel
theorem d_Reader_readOwn_81 : decode b_Reader_readOwn 81 = .ok (.goto 3, 3) := by decide +kernel
theorem d_Reader_readOwn_84 : decode b_Reader_readOwn 84 = .ok (.aload_n 0, 1) := by decide +kernel
theorem d_Reader_readOwn_85 : decode b_Reader_readOwn 85 = .ok (.invokevirtual 30, 3) := by decide +kernel
theorem d_Reader_readOwn_88 : decode b_Reader_readOwn 88 = .ok (.ifCond .eq 14, 3) := by decide +kernel
theorem d_Reader_readOwn_91 : decode b_Reader_readOwn 91 = .ok (.aload_n 0, 1) := by decide +kernel
theorem d_Reader_readOwn_92 : decode b_Reader_readOwn 92 = .ok (.aload_n 1, 1) := by decide +kernel
theorem d_Reader_readOwn_93 : decode b_Reader_readOwn 93 = .ok (.iload_n 2, 1) := by decide +kernel
theorem d_Reader_readOwn_94 : decode b_Reader_readOwn 94 = .ok (.lload_n 3, 1) := by decide +kernel
theorem d_Reader_readOwn_95 : decode b_Reader_readOwn 95 = .ok (.lload 6, 2) := by decide +kernel
theorem d_Reader_readOwn_97 : decode b_Reader_readOwn 97 = .ok (.iload 8, 2) := by decide +kernel
theorem d_Reader_readOwn_99 : decode b_Reader_readOwn 99 = .ok (.invokevirtual 107, 3) := by decide +kernel
theorem d_Reader_readOwn_102 : decode b_Reader_readOwn 102 = .ok (.return_, 1) := by decide +kernel
theorem d_Reader_readSignal_0 : decode b_Reader_readSignal 0 = .ok (.aload_n 0, 1) := by decide +kernel
theorem d_Reader_readSignal_1 : decode b_Reader_readSignal 1 = .ok (.getfield 50, 3) := by decide +kernel
theorem d_Reader_readSignal_4 : decode b_Reader_readSignal 4 = .ok (.istore_n 1, 1) := by decide +kernel
theorem d_Reader_readSignal_5 : decode b_Reader_readSignal 5 = .ok (.aload_n 0, 1) := by decide +kernel
theorem d_Reader_readSignal_6 : decode b_Reader_readSignal 6 = .ok (.invokevirtual 72, 3) := by decide +kernel
theorem d_Reader_readSignal_9 : decode b_Reader_readSignal 9 = .ok (.istore_n 2, 1) := by decide +kernel
theorem d_Reader_readSignal_10 : decode b_Reader_readSignal 10 = .ok (.aload_n 0, 1) := by decide +kernel
theorem d_Reader_readSignal_11 : decode b_Reader_readSignal 11 = .ok (.invokevirtual 30, 3) := by decide +kernel
theorem d_Reader_readSignal_14 : decode b_Reader_readSignal 14 = .ok (.ifCond .eq 16, 3) := by decide +kernel
theorem d_Reader_readSignal_17 : decode b_Reader_readSignal 17 = .ok (.iload_n 2, 1) := by decide +kernel
theorem d_Reader_readSignal_18 : decode b_Reader_readSignal 18 = .ok (.invokestatic 127, 3) := by decide +kernel
theorem d_Reader_readSignal_21 : decode b_Reader_readSignal 21 = .ok (.ifCond .ne 9, 3) := by decide +kernel
theorem d_Reader_readSignal_24 : decode b_Reader_readSignal 24 = .ok (.aload_n 0, 1) := by decide +kernel
theorem d_Reader_readSignal_25 : decode b_Reader_readSignal 25 = .ok (.iconst 5, 1) := by decide +kernel
theorem d_Reader_readSignal_26 : decode b_Reader_readSignal 26 = .ok (.iload_n 1, 1) := by decide +kernel
theorem d_Reader_readSignal_27 : decode b_Reader_readSignal 27 = .ok (.invokevirtual 36, 3) := by decide +kernel
theorem d_Reader_readSignal_30 : decode b_Reader_readSignal 30 = .ok (.iload_n 2, 1) := by decide +kernel
theorem d_Reader_readSignal_31 : decode b_Reader_readSignal 31 = .ok (.ireturn, 1) := by decide +kernel
theorem d_Reader_keep_0 : decode b_Reader_keep 0 = .ok (.aload_n 0, 1) := by decide +kernel
theorem d_Reader_keep_1 : decode b_Reader_keep 1 = .ok (.getfield 12, 3) := by decide +kernel
theorem d_Reader_keep_4 : decode b_Reader_keep 4 = .ok (.iload_n 2, 1) := by decide +kernel
theorem d_Reader_keep_5 : decode b_Reader_keep 5 = .ok (.aload_n 1, 1) := by decide +kernel
theorem d_Reader_keep_6 : decode b_Reader_keep 6 = .ok (.invokevirtual 40, 3) := by decide +kernel
theorem d_Reader_keep_9 : decode b_Reader_keep 9 = .ok (.invokevirtual 130, 3) := by decide +kernel
theorem d_Reader_keep_12 : decode b_Reader_keep 12 = .ok (.aload_n 1, 1) := by decide +kernel
theorem d_Reader_keep_13 : decode b_Reader_keep 13 = .ok (.iload_n 2, 1) := by decide +kernel
theorem d_Reader_keep_14 : decode b_Reader_keep 14 = .ok (.lload_n 3, 1) := by decide +kernel
theorem d_Reader_keep_15 : decode b_Reader_keep 15 = .ok (.lload 5, 2) := by decide +kernel
theorem d_Reader_keep_17 : decode b_Reader_keep 17 = .ok (.iload 7, 2) := by decide +kernel
theorem d_Reader_keep_19 : decode b_Reader_keep 19 = .ok (.invokevirtual 133, 3) := by decide +kernel
theorem d_Reader_keep_22 : decode b_Reader_keep 22 = .ok (.return_, 1) := by decide +kernel
theorem d_Reader_readVarint_0 : decode b_Reader_readVarint 0 = .ok (.aload_n 0, 1) := by decide +kernel
theorem d_Reader_readVarint_1 : decode b_Reader_readVarint 1 = .ok (.getfield 50, 3) := by decide +kernel
theorem d_Reader_readVarint_4 : decode b_Reader_readVarint 4 = .ok (.istore_n 2, 1) := by decide +kernel
theorem d_Reader_readVarint_5 : decode b_Reader_readVarint 5 = .ok (.lconst 0, 1) := by decide +kernel
theorem d_Reader_readVarint_6 : decode b_Reader_readVarint 6 = .ok (.lstore_n 3, 1) := by decide +kernel
theorem d_Reader_readVarint_7 : decode b_Reader_readVarint 7 = .ok (.iconst 0, 1) := by decide +kernel
theorem d_Reader_readVarint_8 : decode b_Reader_readVarint 8 = .ok (.istore 5, 2) := by decide +kernel
theorem d_Reader_readVarint_10 : decode b_Reader_readVarint 10 = .ok (.iload 5, 2) := by decide +kernel
theorem d_Reader_readVarint_12 : decode b_Reader_readVarint 12 = .ok (.bipush 7, 2) := by decide +kernel
theorem d_Reader_readVarint_14 : decode b_Reader_readVarint 14 = .ok (.if_icmp .ge 106, 3) := by decide +kernel
theorem d_Reader_readVarint_17 : decode b_Reader_readVarint 17 = .ok (.aload_n 0, 1) := by decide +kernel
theorem d_Reader_readVarint_18 : decode b_Reader_readVarint 18 = .ok (.invokevirtual 72, 3) := by decide +kernel
theorem d_Reader_readVarint_21 : decode b_Reader_readVarint 21 = .ok (.istore 6, 2) := by decide +kernel
theorem d_Reader_readVarint_23 : decode b_Reader_readVarint 23 = .ok (.aload_n 0, 1) := by decide +kernel
theorem d_Reader_readVarint_24 : decode b_Reader_readVarint 24 = .ok (.invokevirtual 30, 3) := by decide +kernel
theorem d_Reader_readVarint_27 : decode b_Reader_readVarint 27 = .ok (.ifCond .ne 5, 3) := by decide +kernel
theorem d_Reader_readVarint_30 : decode b_Reader_readVarint 30 = .ok (.lconst 0, 1) := by decide +kernel
theorem d_Reader_readVarint_31 : decode b_Reader_readVarint 31 = .ok (.lreturn, 1) := by decide +kernel
theorem d_Reader_readVarint_32 : decode b_Reader_readVarint 32 = .ok (.lload_n 3, 1) := by decide +kernel
theorem d_Reader_readVarint_33 : decode b_Reader_readVarint 33 = .ok (.iload 6, 2) := by decide +kernel
theorem d_Reader_readVarint_35 : decode b_Reader_readVarint 35 = .ok (.bipush 127, 2) := by decide +kernel
theorem d_Reader_readVarint_37 : decode b_Reader_readVarint 37 = .ok (.iand, 1) := by decide +kernel
theorem d_Reader_readVarint_38 : decode b_Reader_readVarint 38 = .ok (.i2l, 1) := by decide +kernel
theorem d_Reader_readVarint_39 : decode b_Reader_readVarint 39 = .ok (.bipush 7, 2) := by decide +kernel
theorem d_Reader_readVarint_41 : decode b_Reader_readVarint 41 = .ok (.iload 5, 2) := by decide +kernel
theorem d_Reader_readVarint_43 : decode b_Reader_readVarint 43 = .ok (.imul, 1) := by decide +kernel
theorem d_Reader_readVarint_44 : decode b_Reader_readVarint 44 = .ok (.lshl, 1) := by decide +kernel
theorem d_Reader_readVarint_45 : decode b_Reader_readVarint 45 = .ok (.lor, 1) := by decide +kernel
theorem d_Reader_readVarint_46 : decode b_Reader_readVarint 46 = .ok (.lstore_n 3, 1) := by decide +kernel
theorem d_Reader_readVarint_47 : decode b_Reader_readVarint 47 = .ok (.iload 6, 2) := by decide +kernel
theorem d_Reader_readVarint_49 : decode b_Reader_readVarint 49 = .ok (.sipush 128, 3) := by decide +kernel
theorem d_Reader_readVarint_52 : decode b_Reader_readVarint 52 = .ok (.if_icmp .ge 62, 3) := by decide +kernel
theorem d_Reader_readVarint_55 : decode b_Reader_readVarint 55 = .ok (.iload 6, 2) := by decide +kernel
theorem d_Reader_readVarint_57 : decode b_Reader_readVarint 57 = .ok (.ifCond .ne 12, 3) := by decide +kernel
theorem d_Reader_readVarint_60 : decode b_Reader_readVarint 60 = .ok (.iload 5, 2) := by decide +kernel
theorem d_Reader_readVarint_62 : decode b_Reader_readVarint 62 = .ok (.ifCond .le 7, 3) := by decide +kernel
theorem d_Reader_readVarint_65 : decode b_Reader_readVarint 65 = .ok (.iconst 1, 1) := by decide +kernel
theorem d_Reader_readVarint_66 : decode b_Reader_readVarint 66 = .ok (.goto 4, 3) := by decide +kernel
theorem d_Reader_readVarint_69 : decode b_Reader_readVarint 69 = .ok (.iconst 0, 1) := by decide +kernel
theorem d_Reader_readVarint_70 : decode b_Reader_readVarint 70 = .ok (.istore 7, 2) := by decide +kernel
theorem d_Reader_readVarint_72 : decode b_Reader_readVarint 72 = .ok (.iload 7, 2) := by decide +kernel
theorem d_Reader_readVarint_74 : decode b_Reader_readVarint 74 = .ok (.ifCond .ne 11, 3) := by decide +kernel
theorem d_Reader_readVarint_77 : decode b_Reader_readVarint 77 = .ok (.lload_n 3, 1) := by decide +kernel
theorem d_Reader_readVarint_78 : decode b_Reader_readVarint 78 = .ok (.ldc2_w 137, 3) := by decide +kernel
theorem d_Reader_readVarint_81 : decode b_Reader_readVarint 81 = .ok (.lcmp, 1) := by decide +kernel
theorem d_Reader_readVarint_82 : decode b_Reader_readVarint 82 = .ok (.ifCond .le 17, 3) := by decide +kernel
theorem d_Reader_readVarint_85 : decode b_Reader_readVarint 85 = .ok (.aload_n 0, 1) := by decide +kernel
theorem d_Reader_readVarint_86 : decode b_Reader_readVarint 86 = .ok (.iconst 3, 1) := by decide +kernel
theorem d_Reader_readVarint_87 : decode b_Reader_readVarint 87 = .ok (.aload_n 0, 1) := by decide +kernel
theorem d_Reader_readVarint_88 : decode b_Reader_readVarint 88 = .ok (.getfield 50, 3) := by decide +kernel
theorem d_Reader_readVarint_91 : decode b_Reader_readVarint 91 = .ok (.iconst 1, 1) := by decide +kernel
theorem d_Reader_readVarint_92 : decode b_Reader_readVarint 92 = .ok (.isub, 1) := by decide +kernel
theorem d_Reader_readVarint_93 : decode b_Reader_readVarint 93 = .ok (.invokevirtual 36, 3) := by decide +kernel
theorem d_Reader_readVarint_96 : decode b_Reader_readVarint 96 = .ok (.goto 16, 3) := by decide +kernel
theorem d_Reader_readVarint_99 : decode b_Reader_readVarint 99 = .ok (.lload_n 3, 1) := by decide +kernel
theorem d_Reader_readVarint_100 : decode b_Reader_readVarint 100 = .ok (.iload_n 1, 1) := by decide +kernel
theorem d_Reader_readVarint_101 : decode b_Reader_readVarint 101 = .ok (.i2l, 1) := by decide +kernel
theorem d_Reader_readVarint_102 : decode b_Reader_readVarint 102 = .ok (.lcmp, 1) := by decide +kernel
theorem d_Reader_readVarint_103 : decode b_Reader_readVarint 103 = .ok (.ifCond .ge 9, 3) := by decide +kernel
theorem d_Reader_readVarint_106 : decode b_Reader_readVarint 106 = .ok (.aload_n 0, 1) := by decide +kernel
theorem d_Reader_readVarint_107 : decode b_Reader_readVarint 107 = .ok (.iconst 5, 1) := by decide +kernel
theorem d_Reader_readVarint_108 : decode b_Reader_readVarint 108 = .ok (.iload_n 2, 1) := by decide +kernel
theorem d_Reader_readVarint_109 : decode b_Reader_readVarint 109 = .ok (.invokevirtual 36, 3) := by decide +kernel
theorem d_Reader_readVarint_112 : decode b_Reader_readVarint 112 = .ok (.lload_n 3, 1) := by decide +kernel
theorem d_Reader_readVarint_113 : decode b_Reader_readVarint 113 = .ok (.lreturn, 1) := by decide +kernel
theorem d_Reader_readVarint_114 : decode b_Reader_readVarint 114 = .ok (.iinc 5 1, 3) := by decide +kernel
theorem d_Reader_readVarint_117 : decode b_Reader_readVarint 117 = .ok (.goto (-107), 3) := by decide +kernel
theorem d_Reader_readVarint_120 : decode b_Reader_readVarint 120 = .ok (.aload_n 0, 1) := by decide +kernel
theorem d_Reader_readVarint_121 : decode b_Reader_readVarint 121 = .ok (.iconst 3, 1) := by decide +kernel
theorem d_Reader_readVarint_122 : decode b_Reader_readVarint 122 = .ok (.aload_n 0, 1) := by decide +kernel
theorem d_Reader_readVarint_123 : decode b_Reader_readVarint 123 = .ok (.getfield 50, 3) := by decide +kernel
theorem d_Reader_readVarint_126 : decode b_Reader_readVarint 126 = .ok (.iconst 1, 1) := by decide +kernel
theorem d_Reader_readVarint_127 : decode b_Reader_readVarint 127 = .ok (.isub, 1) := by decide +kernel
theorem d_Reader_readVarint_128 : decode b_Reader_readVarint 128 = .ok (.invokevirtual 36, 3) := by decide +kernel
theorem d_Reader_readVarint_131 : decode b_Reader_readVarint 131 = .ok (.lconst 0, 1) := by decide +kernel
theorem d_Reader_readVarint_132 : decode b_Reader_readVarint 132 = .ok (.lreturn, 1) := by decide +kernel
theorem d_Reader_readBytes_0 : decode b_Reader_readBytes 0 = .ok (.lconst 0, 1) := by decide +kernel
theorem d_Reader_readBytes_1 : decode b_Reader_readBytes 1 = .ok (.lstore_n 2, 1) := by decide +kernel
theorem d_Reader_readBytes_2 : decode b_Reader_readBytes 2 = .ok (.iconst 0, 1) := by decide +kernel
theorem d_Reader_readBytes_3 : decode b_Reader_readBytes 3 = .ok (.istore 4, 2) := by decide +kernel
theorem d_Reader_readBytes_5 : decode b_Reader_readBytes 5 = .ok (.iload 4, 2) := by decide +kernel
theorem d_Reader_readBytes_7 : decode b_Reader_readBytes 7 = .ok (.iload_n 1, 1) := by decide +kernel
theorem d_Reader_readBytes_8 : decode b_Reader_readBytes 8 = .ok (.if_icmp .ge 27, 3) := by decide +kernel
theorem d_Reader_readBytes_11 : decode b_Reader_readBytes 11 = .ok (.aload_n 0, 1) := by decide +kernel
theorem d_Reader_readBytes_12 : decode b_Reader_readBytes 12 = .ok (.invokevirtual 30, 3) := by decide +kernel
theorem d_Reader_readBytes_15 : decode b_Reader_readBytes 15 = .ok (.ifCond .eq 20, 3) := by decide +kernel
theorem d_Reader_readBytes_18 : decode b_Reader_readBytes 18 = .ok (.lload_n 2, 1) := by decide +kernel
theorem d_Reader_readBytes_19 : decode b_Reader_readBytes 19 = .ok (.bipush 8, 2) := by decide +kernel
theorem d_Reader_readBytes_21 : decode b_Reader_readBytes 21 = .ok (.lshl, 1) := by decide +kernel
theorem d_Reader_readBytes_22 : decode b_Reader_readBytes 22 = .ok (.aload_n 0, 1) := by decide +kernel
theorem d_Reader_readBytes_23 : decode b_Reader_readBytes 23 = .ok (.invokevirtual 72, 3) := by decide +kernel
theorem d_Reader_readBytes_26 : decode b_Reader_readBytes 26 = .ok (.i2l, 1) := by decide +kernel
theorem d_Reader_readBytes_27 : decode b_Reader_readBytes 27 = .ok (.lor, 1) := by decide +kernel
theorem d_Reader_readBytes_28 : decode b_Reader_readBytes 28 = .ok (.lstore_n 2, 1) := by decide +kernel
theorem d_Reader_readBytes_29 : decode b_Reader_readBytes 29 = .ok (.iinc 4 1, 3) := by decide +kernel
theorem d_Reader_readBytes_32 : decode b_Reader_readBytes 32 = .ok (.goto (-27), 3) := by decide +kernel
theorem d_Reader_readBytes_35 : decode b_Reader_readBytes 35 = .ok (.lload_n 2, 1) := by decide +kernel
theorem d_Reader_readBytes_36 : decode b_Reader_readBytes 36 = .ok (.lreturn, 1) := by decide +kernel
theorem d_Reader_readByte_0 : decode b_Reader_readByte 0 = .ok (.aload_n 0, 1) := by decide +kernel
theorem d_Reader_readByte_1 : decode b_Reader_readByte 1 = .ok (.getfield 50, 3) := by decide +kernel
theorem d_Reader_readByte_4 : decode b_Reader_readByte 4 = .ok (.aload_n 0, 1) := by decide +kernel
theorem d_Reader_readByte_5 : decode b_Reader_readByte 5 = .ok (.getfield 18, 3) := by decide +kernel
theorem d_Reader_readByte_8 : decode b_Reader_readByte 8 = .ok (.invokevirtual 54, 3) := by decide +kernel
theorem d_Reader_readByte_11 : decode b_Reader_readByte 11 = .ok (.if_icmp .lt 17, 3) := by decide +kernel
theorem d_Reader_readByte_14 : decode b_Reader_readByte 14 = .ok (.aload_n 0, 1) := by decide +kernel
theorem d_Reader_readByte_15 : decode b_Reader_readByte 15 = .ok (.iconst 2, 1) := by decide +kernel
theorem d_Reader_readByte_16 : decode b_Reader_readByte 16 = .ok (.aload_n 0, 1) := by decide +kernel
theorem d_Reader_readByte_17 : decode b_Reader_readByte 17 = .ok (.getfield 18, 3) := by decide +kernel
theorem d_Reader_readByte_20 : decode b_Reader_readByte 20 = .ok (.invokevirtual 54, 3) := by decide +kernel
theorem d_Reader_readByte_23 : decode b_Reader_readByte 23 = .ok (.invokevirtual 36, 3) := by decide +kernel
theorem d_Reader_readByte_26 : decode b_Reader_readByte 26 = .ok (.iconst 0, 1) := by decide +kernel
theorem d_Reader_readByte_27 : decode b_Reader_readByte 27 = .ok (.ireturn, 1) := by decide +kernel
theorem d_Reader_readByte_28 : decode b_Reader_readByte 28 = .ok (.aload_n 0, 1) := by decide +kernel
theorem d_Reader_readByte_29 : decode b_Reader_readByte 29 = .ok (.getfield 18, 3) := by decide +kernel
theorem d_Reader_readByte_32 : decode b_Reader_readByte 32 = .ok (.aload_n 0, 1) := by decide +kernel
theorem d_Reader_readByte_33 : decode b_Reader_readByte 33 = .ok (.getfield 50, 3) := by decide +kernel
theorem d_Reader_readByte_36 : decode b_Reader_readByte 36 = .ok (.invokevirtual 139, 3) := by decide +kernel
theorem d_Reader_readByte_39 : decode b_Reader_readByte 39 = .ok (.istore_n 1, 1) := by decide +kernel
theorem d_Reader_readByte_40 : decode b_Reader_readByte 40 = .ok (.aload_n 0, 1) := by decide +kernel
theorem d_Reader_readByte_41 : decode b_Reader_readByte 41 = .ok (.dup, 1) := by decide +kernel
theorem d_Reader_readByte_42 : decode b_Reader_readByte 42 = .ok (.getfield 50, 3) := by decide +kernel
theorem d_Reader_readByte_45 : decode b_Reader_readByte 45 = .ok (.iconst 1, 1) := by decide +kernel
theorem d_Reader_readByte_46 : decode b_Reader_readByte 46 = .ok (.iadd, 1) := by decide +kernel
theorem d_Reader_readByte_47 : decode b_Reader_readByte 47 = .ok (.putfield 50, 3) := by decide +kernel
theorem d_Reader_readByte_50 : decode b_Reader_readByte 50 = .ok (.iload_n 1, 1) := by decide +kernel
theorem d_Reader_readByte_51 : decode b_Reader_readByte 51 = .ok (.ireturn, 1) := by decide +kernel
