theorem d_Model_init_0 : decode b_Model_init 0 = .ok (.aload_n 0, 1) := by decide +kernel
theorem d_Model_init_1 : decode b_Model_init 1 = .ok (.invokespecial 1, 3) := by decide +kernel
theorem d_Model_init_4 : decode b_Model_init 4 = .ok (.aload_n 0, 1) := by decide +kernel
theorem d_Model_init_5 : decode b_Model_init 5 = .ok (.sipush 300, 3) := by decide +kernel
theorem d_Model_init_8 : decode b_Model_init 8 = .ok (.newarray .int, 2) := by decide +kernel
theorem d_Model_init_10 : decode b_Model_init 10 = .ok (.putfield 7, 3) := by decide +kernel
theorem d_Model_init_13 : decode b_Model_init 13 = .ok (.aload_n 0, 1) := by decide +kernel
theorem d_Model_init_14 : decode b_Model_init 14 = .ok (.sipush 300, 3) := by decide +kernel
theorem d_Model_init_17 : decode b_Model_init 17 = .ok (.newarray .int, 2) := by decide +kernel
theorem d_Model_init_19 : decode b_Model_init 19 = .ok (.putfield 13, 3) := by decide +kernel
theorem d_Model_init_22 : decode b_Model_init 22 = .ok (.aload_n 0, 1) := by decide +kernel
theorem d_Model_init_23 : decode b_Model_init 23 = .ok (.sipush 300, 3) := by decide +kernel
theorem d_Model_init_26 : decode b_Model_init 26 = .ok (.newarray .long, 2) := by decide +kernel
theorem d_Model_init_28 : decode b_Model_init 28 = .ok (.putfield 16, 3) := by decide +kernel
theorem d_Model_init_31 : decode b_Model_init 31 = .ok (.aload_n 0, 1) := by decide +kernel
theorem d_Model_init_32 : decode b_Model_init 32 = .ok (.sipush 300, 3) := by decide +kernel
theorem d_Model_init_35 : decode b_Model_init 35 = .ok (.newarray .long, 2) := by decide +kernel
theorem d_Model_init_37 : decode b_Model_init 37 = .ok (.putfield 20, 3) := by decide +kernel
theorem d_Model_init_40 : decode b_Model_init 40 = .ok (.aload_n 0, 1) := by decide +kernel
theorem d_Model_init_41 : decode b_Model_init 41 = .ok (.sipush 300, 3) := by decide +kernel
theorem d_Model_init_44 : decode b_Model_init 44 = .ok (.newarray .int, 2) := by decide +kernel
theorem d_Model_init_46 : decode b_Model_init 46 = .ok (.putfield 23, 3) := by decide +kernel
theorem d_Model_init_49 : decode b_Model_init 49 = .ok (.aload_n 0, 1) := by decide +kernel
theorem d_Model_init_50 : decode b_Model_init 50 = .ok (.sipush 300, 3) := by decide +kernel
theorem d_Model_init_53 : decode b_Model_init 53 = .ok (.newarray .int, 2) := by decide +kernel
theorem d_Model_init_55 : decode b_Model_init 55 = .ok (.putfield 26, 3) := by decide +kernel
theorem d_Model_init_58 : decode b_Model_init 58 = .ok (.aload_n 0, 1) := by decide +kernel
theorem d_Model_init_59 : decode b_Model_init 59 = .ok (.sipush 300, 3) := by decide +kernel
theorem d_Model_init_62 : decode b_Model_init 62 = .ok (.newarray .long, 2) := by decide +kernel
theorem d_Model_init_64 : decode b_Model_init 64 = .ok (.putfield 29, 3) := by decide +kernel
theorem d_Model_init_67 : decode b_Model_init 67 = .ok (.aload_n 0, 1) := by decide +kernel
theorem d_Model_init_68 : decode b_Model_init 68 = .ok (.sipush 300, 3) := by decide +kernel
theorem d_Model_init_71 : decode b_Model_init 71 = .ok (.newarray .long, 2) := by decide +kernel
theorem d_Model_init_73 : decode b_Model_init 73 = .ok (.putfield 32, 3) := by decide +kernel
theorem d_Model_init_76 : decode b_Model_init 76 = .ok (.aload_n 0, 1) := by decide +kernel
theorem d_Model_init_77 : decode b_Model_init 77 = .ok (.sipush 5000, 3) := by decide +kernel
theorem d_Model_init_80 : decode b_Model_init 80 = .ok (.newarray .int, 2) := by decide +kernel
theorem d_Model_init_82 : decode b_Model_init 82 = .ok (.putfield 35, 3) := by decide +kernel
theorem d_Model_init_85 : decode b_Model_init 85 = .ok (.aload_n 0, 1) := by decide +kernel
theorem d_Model_init_86 : decode b_Model_init 86 = .ok (.sipush 5000, 3) := by decide +kernel
theorem d_Model_init_89 : decode b_Model_init 89 = .ok (.newarray .int, 2) := by decide +kernel
theorem d_Model_init_91 : decode b_Model_init 91 = .ok (.putfield 38, 3) := by decide +kernel
theorem d_Model_init_94 : decode b_Model_init 94 = .ok (.return_, 1) := by decide +kernel
theorem d_Model_thrown_0 : decode b_Model_thrown 0 = .ok (.aload_n 0, 1) := by decide +kernel
theorem d_Model_thrown_1 : decode b_Model_thrown 1 = .ok (.getfield 41, 3) := by decide +kernel
theorem d_Model_thrown_4 : decode b_Model_thrown 4 = .ok (.ireturn, 1) := by decide +kernel
theorem d_Model_fails_0 : decode b_Model_fails 0 = .ok (.aload_n 0, 1) := by decide +kernel
theorem d_Model_fails_1 : decode b_Model_fails 1 = .ok (.iload_n 1, 1) := by decide +kernel
theorem d_Model_fails_2 : decode b_Model_fails 2 = .ok (.ifCond .eq 7, 3) := by decide +kernel
theorem d_Model_fails_5 : decode b_Model_fails 5 = .ok (.iconst 1, 1) := by decide +kernel
theorem d_Model_fails_6 : decode b_Model_fails 6 = .ok (.goto 20, 3) := by decide +kernel
theorem d_Model_fails_9 : decode b_Model_fails 9 = .ok (.iload_n 2, 1) := by decide +kernel
theorem d_Model_fails_10 : decode b_Model_fails 10 = .ok (.ifCond .eq 7, 3) := by decide +kernel
theorem d_Model_fails_13 : decode b_Model_fails 13 = .ok (.iconst 2, 1) := by decide +kernel
theorem d_Model_fails_14 : decode b_Model_fails 14 = .ok (.goto 12, 3) := by decide +kernel
theorem d_Model_fails_17 : decode b_Model_fails 17 = .ok (.iload_n 3, 1) := by decide +kernel
theorem d_Model_fails_18 : decode b_Model_fails 18 = .ok (.ifCond .eq 7, 3) := by decide +kernel
theorem d_Model_fails_21 : decode b_Model_fails 21 = .ok (.iconst 3, 1) := by decide +kernel
theorem d_Model_fails_22 : decode b_Model_fails 22 = .ok (.goto 4, 3) := by decide +kernel
theorem d_Model_fails_25 : decode b_Model_fails 25 = .ok (.iconst 0, 1) := by decide +kernel
theorem d_Model_fails_26 : decode b_Model_fails 26 = .ok (.putfield 41, 3) := by decide +kernel
theorem d_Model_fails_29 : decode b_Model_fails 29 = .ok (.aload_n 0, 1) := by decide +kernel
theorem d_Model_fails_30 : decode b_Model_fails 30 = .ok (.getfield 41, 3) := by decide +kernel
theorem d_Model_fails_33 : decode b_Model_fails 33 = .ok (.ifCond .le 7, 3) := by decide +kernel
theorem d_Model_fails_36 : decode b_Model_fails 36 = .ok (.iconst 1, 1) := by decide +kernel
theorem d_Model_fails_37 : decode b_Model_fails 37 = .ok (.goto 4, 3) := by decide +kernel
theorem d_Model_fails_40 : decode b_Model_fails 40 = .ok (.iconst 0, 1) := by decide +kernel
theorem d_Model_fails_41 : decode b_Model_fails 41 = .ok (.ireturn, 1) := by decide +kernel
theorem d_Model_in_0 : decode b_Model_in 0 = .ok (.lload_n 0, 1) := by decide +kernel
theorem d_Model_in_1 : decode b_Model_in 1 = .ok (.lload_n 2, 1) := by decide +kernel
theorem d_Model_in_2 : decode b_Model_in 2 = .ok (.lcmp, 1) := by decide +kernel
theorem d_Model_in_3 : decode b_Model_in 3 = .ok (.ifCond .lt 14, 3) := by decide +kernel
theorem d_Model_in_6 : decode b_Model_in 6 = .ok (.lload_n 0, 1) := by decide +kernel
theorem d_Model_in_7 : decode b_Model_in 7 = .ok (.lload 4, 2) := by decide +kernel
theorem d_Model_in_9 : decode b_Model_in 9 = .ok (.lcmp, 1) := by decide +kernel
theorem d_Model_in_10 : decode b_Model_in 10 = .ok (.ifCond .gt 7, 3) := by decide +kernel
theorem d_Model_in_13 : decode b_Model_in 13 = .ok (.iconst 1, 1) := by decide +kernel
theorem d_Model_in_14 : decode b_Model_in 14 = .ok (.goto 4, 3) := by decide +kernel
theorem d_Model_in_17 : decode b_Model_in 17 = .ok (.iconst 0, 1) := by decide +kernel
theorem d_Model_in_18 : decode b_Model_in 18 = .ok (.ireturn, 1) := by decide +kernel
theorem d_Model_low_0 : decode b_Model_low 0 = .ok (.iload_n 2, 1) := by decide +kernel
theorem d_Model_low_1 : decode b_Model_low 1 = .ok (.bipush 7, 2) := by decide +kernel
theorem d_Model_low_3 : decode b_Model_low 3 = .ok (.if_icmp .le 7, 3) := by decide +kernel
theorem d_Model_low_6 : decode b_Model_low 6 = .ok (.lload_n 0, 1) := by decide +kernel
theorem d_Model_low_7 : decode b_Model_low 7 = .ok (.goto 13, 3) := by decide +kernel
theorem d_Model_low_10 : decode b_Model_low 10 = .ok (.lload_n 0, 1) := by decide +kernel
theorem d_Model_low_11 : decode b_Model_low 11 = .ok (.lconst 1, 1) := by decide +kernel
theorem d_Model_low_12 : decode b_Model_low 12 = .ok (.bipush 8, 2) := by decide +kernel
theorem d_Model_low_14 : decode b_Model_low 14 = .ok (.iload_n 2, 1) := by decide +kernel
theorem d_Model_low_15 : decode b_Model_low 15 = .ok (.imul, 1) := by decide +kernel
theorem d_Model_low_16 : decode b_Model_low 16 = .ok (.lshl, 1) := by decide +kernel
theorem d_Model_low_17 : decode b_Model_low 17 = .ok (.lconst 1, 1) := by decide +kernel
theorem d_Model_low_18 : decode b_Model_low 18 = .ok (.lsub, 1) := by decide +kernel
theorem d_Model_low_19 : decode b_Model_low 19 = .ok (.land, 1) := by decide +kernel
theorem d_Model_low_20 : decode b_Model_low 20 = .ok (.lreturn, 1) := by decide +kernel
theorem d_Model_isSaid_0 : decode b_Model_isSaid 0 = .ok (.iload_n 0, 1) := by decide +kernel
theorem d_Model_isSaid_1 : decode b_Model_isSaid 1 = .ok (.i2l, 1) := by decide +kernel
theorem d_Model_isSaid_2 : decode b_Model_isSaid 2 = .ok (.lconst 0, 1) := by decide +kernel
theorem d_Model_isSaid_3 : decode b_Model_isSaid 3 = .ok (.ldc2_w 45, 3) := by decide +kernel
theorem d_Model_isSaid_6 : decode b_Model_isSaid 6 = .ok (.invokestatic 47, 3) := by decide +kernel
theorem d_Model_isSaid_9 : decode b_Model_isSaid 9 = .ok (.ifCond .eq 14, 3) := by decide +kernel
theorem d_Model_isSaid_12 : decode b_Model_isSaid 12 = .ok (.lload_n 1, 1) := by decide +kernel
theorem d_Model_isSaid_13 : decode b_Model_isSaid 13 = .ok (.lconst 0, 1) := by decide +kernel
theorem d_Model_isSaid_14 : decode b_Model_isSaid 14 = .ok (.ldc2_w 51, 3) := by decide +kernel
theorem d_Model_isSaid_17 : decode b_Model_isSaid 17 = .ok (.invokestatic 47, 3) := by decide +kernel
theorem d_Model_isSaid_20 : decode b_Model_isSaid 20 = .ok (.ifCond .ne 5, 3) := by decide +kernel
theorem d_Model_isSaid_23 : decode b_Model_isSaid 23 = .ok (.iconst 0, 1) := by decide +kernel
theorem d_Model_isSaid_24 : decode b_Model_isSaid 24 = .ok (.ireturn, 1) := by decide +kernel
theorem d_Model_isSaid_25 : decode b_Model_isSaid 25 = .ok (.iload_n 0, 1) := by decide +kernel
theorem d_Model_isSaid_26 : decode b_Model_isSaid 26 = .ok (.ifCond .ne 14, 3) := by decide +kernel
theorem d_Model_isSaid_29 : decode b_Model_isSaid 29 = .ok (.lload_n 3, 1) := by decide +kernel
theorem d_Model_isSaid_30 : decode b_Model_isSaid 30 = .ok (.lconst 0, 1) := by decide +kernel
theorem d_Model_isSaid_31 : decode b_Model_isSaid 31 = .ok (.ldc2_w 53, 3) := by decide +kernel
theorem d_Model_isSaid_34 : decode b_Model_isSaid 34 = .ok (.invokestatic 47, 3) := by decide +kernel
theorem d_Model_isSaid_37 : decode b_Model_isSaid 37 = .ok (.goto 79, 3) := by decide +kernel
theorem d_Model_isSaid_40 : decode b_Model_isSaid 40 = .ok (.iload_n 0, 1) := by decide +kernel
theorem d_Model_isSaid_41 : decode b_Model_isSaid 41 = .ok (.iconst 1, 1) := by decide +kernel
theorem d_Model_isSaid_42 : decode b_Model_isSaid 42 = .ok (.if_icmp .ne 16, 3) := by decide +kernel
theorem d_Model_isSaid_45 : decode b_Model_isSaid 45 = .ok (.iload 5, 2) := by decide +kernel
theorem d_Model_isSaid_47 : decode b_Model_isSaid 47 = .ok (.i2l, 1) := by decide +kernel
theorem d_Model_isSaid_48 : decode b_Model_isSaid 48 = .ok (.lconst 1, 1) := by decide +kernel
theorem d_Model_isSaid_49 : decode b_Model_isSaid 49 = .ok (.ldc2_w 55, 3) := by decide +kernel
theorem d_Model_isSaid_52 : decode b_Model_isSaid 52 = .ok (.invokestatic 47, 3) := by decide +kernel
theorem d_Model_isSaid_55 : decode b_Model_isSaid 55 = .ok (.goto 61, 3) := by decide +kernel
theorem d_Model_isSaid_58 : decode b_Model_isSaid 58 = .ok (.iload_n 0, 1) := by decide +kernel
theorem d_Model_isSaid_59 : decode b_Model_isSaid 59 = .ok (.iconst 2, 1) := by decide +kernel
theorem d_Model_isSaid_60 : decode b_Model_isSaid 60 = .ok (.if_icmp .ne 35, 3) := by decide +kernel
theorem d_Model_isSaid_63 : decode b_Model_isSaid 63 = .ok (.lload_n 3, 1) := by decide +kernel
theorem d_Model_isSaid_64 : decode b_Model_isSaid 64 = .ok (.lconst 0, 1) := by decide +kernel
theorem d_Model_isSaid_65 : decode b_Model_isSaid 65 = .ok (.ldc2_w 53, 3) := by decide +kernel
theorem d_Model_isSaid_68 : decode b_Model_isSaid 68 = .ok (.invokestatic 47, 3) := by decide +kernel
theorem d_Model_isSaid_71 : decode b_Model_isSaid 71 = .ok (.ifCond .eq 20, 3) := by decide +kernel
theorem d_Model_isSaid_74 : decode b_Model_isSaid 74 = .ok (.iload 5, 2) := by decide +kernel
theorem d_Model_isSaid_76 : decode b_Model_isSaid 76 = .ok (.i2l, 1) := by decide +kernel
theorem d_Model_isSaid_77 : decode b_Model_isSaid 77 = .ok (.lconst 1, 1) := by decide +kernel
theorem d_Model_isSaid_78 : decode b_Model_isSaid 78 = .ok (.ldc2_w 57, 3) := by decide +kernel
theorem d_Model_isSaid_81 : decode b_Model_isSaid 81 = .ok (.invokestatic 47, 3) := by decide +kernel
theorem d_Model_isSaid_84 : decode b_Model_isSaid 84 = .ok (.ifCond .eq 7, 3) := by decide +kernel
theorem d_Model_isSaid_87 : decode b_Model_isSaid 87 = .ok (.iconst 1, 1) := by decide +kernel
theorem d_Model_isSaid_88 : decode b_Model_isSaid 88 = .ok (.goto 28, 3) := by decide +kernel
theorem d_Model_isSaid_91 : decode b_Model_isSaid 91 = .ok (.iconst 0, 1) := by decide +kernel
theorem d_Model_isSaid_92 : decode b_Model_isSaid 92 = .ok (.goto 24, 3) := by decide +kernel
theorem d_Model_isSaid_95 : decode b_Model_isSaid 95 = .ok (.iload_n 0, 1) := by decide +kernel
theorem d_Model_isSaid_96 : decode b_Model_isSaid 96 = .ok (.iconst 4, 1) := by decide +kernel
theorem d_Model_isSaid_97 : decode b_Model_isSaid 97 = .ok (.if_icmp .eq 14, 3) := by decide +kernel
theorem d_Model_isSaid_100 : decode b_Model_isSaid 100 = .ok (.lload_n 3, 1) := by decide +kernel
theorem d_Model_isSaid_101 : decode b_Model_isSaid 101 = .ok (.lconst 0, 1) := by decide +kernel
theorem d_Model_isSaid_102 : decode b_Model_isSaid 102 = .ok (.ldc2_w 51, 3) := by decide +kernel
theorem d_Model_isSaid_105 : decode b_Model_isSaid 105 = .ok (.invokestatic 47, 3) := by decide +kernel
theorem d_Model_isSaid_108 : decode b_Model_isSaid 108 = .ok (.ifCond .eq 7, 3) := by decide +kernel
theorem d_Model_isSaid_111 : decode b_Model_isSaid 111 = .ok (.iconst 1, 1) := by decide +kernel
theorem d_Model_isSaid_112 : decode b_Model_isSaid 112 = .ok (.goto 4, 3) := by decide +kernel
theorem d_Model_isSaid_115 : decode b_Model_isSaid 115 = .ok (.iconst 0, 1) := by decide +kernel
theorem d_Model_isSaid_116 : decode b_Model_isSaid 116 = .ok (.ireturn, 1) := by decide +kernel
theorem d_Model_add_0 : decode b_Model_add 0 = .ok (.iload_n 1, 1) := by decide +kernel
theorem d_Model_add_1 : decode b_Model_add 1 = .ok (.lload_n 2, 1) := by decide +kernel
theorem d_Model_add_2 : decode b_Model_add 2 = .ok (.lload 4, 2) := by decide +kernel
theorem d_Model_add_4 : decode b_Model_add 4 = .ok (.iload 6, 2) := by decide +kernel
theorem d_Model_add_6 : decode b_Model_add 6 = .ok (.invokestatic 59, 3) := by decide +kernel
theorem d_Model_add_9 : decode b_Model_add 9 = .ok (.istore 7, 2) := by decide +kernel
theorem d_Model_add_11 : decode b_Model_add 11 = .ok (.aload_n 0, 1) := by decide +kernel
theorem d_Model_add_12 : decode b_Model_add 12 = .ok (.iload 7, 2) := by decide +kernel
theorem d_Model_add_14 : decode b_Model_add 14 = .ok (.ifCond .ne 7, 3) := by decide +kernel
theorem d_Model_add_17 : decode b_Model_add 17 = .ok (.iconst 1, 1) := by decide +kernel
theorem d_Model_add_18 : decode b_Model_add 18 = .ok (.goto 4, 3) := by decide +kernel
theorem d_Model_add_21 : decode b_Model_add 21 = .ok (.iconst 0, 1) := by decide +kernel
theorem d_Model_add_22 : decode b_Model_add 22 = .ok (.iload 7, 2) := by decide +kernel
theorem d_Model_add_24 : decode b_Model_add 24 = .ok (.ifCond .eq 17, 3) := by decide +kernel
theorem d_Model_add_27 : decode b_Model_add 27 = .ok (.aload_n 0, 1) := by decide +kernel
theorem d_Model_add_28 : decode b_Model_add 28 = .ok (.getfield 63, 3) := by decide +kernel
theorem d_Model_add_31 : decode b_Model_add 31 = .ok (.sipush 300, 3) := by decide +kernel
theorem d_Model_add_34 : decode b_Model_add 34 = .ok (.if_icmp .ne 7, 3) := by decide +kernel
theorem d_Model_add_37 : decode b_Model_add 37 = .ok (.iconst 1, 1) := by decide +kernel
theorem d_Model_add_38 : decode b_Model_add 38 = .ok (.goto 4, 3) := by decide +kernel
theorem d_Model_add_41 : decode b_Model_add 41 = .ok (.iconst 0, 1) := by decide +kernel
theorem d_Model_add_42 : decode b_Model_add 42 = .ok (.iconst 0, 1) := by decide +kernel
theorem d_Model_add_43 : decode b_Model_add 43 = .ok (.invokevirtual 66, 3) := by decide +kernel
theorem d_Model_add_46 : decode b_Model_add 46 = .ok (.ifCond .eq 5, 3) := by decide +kernel
theorem d_Model_add_49 : decode b_Model_add 49 = .ok (.iconst 0, 1) := by decide +kernel
theorem d_Model_add_50 : decode b_Model_add 50 = .ok (.ireturn, 1) := by decide +kernel
theorem d_Model_add_51 : decode b_Model_add 51 = .ok (.aload_n 0, 1) := by decide +kernel
theorem d_Model_add_52 : decode b_Model_add 52 = .ok (.getfield 7, 3) := by decide +kernel
theorem d_Model_add_55 : decode b_Model_add 55 = .ok (.aload_n 0, 1) := by decide +kernel
theorem d_Model_add_56 : decode b_Model_add 56 = .ok (.getfield 63, 3) := by decide +kernel
theorem d_Model_add_59 : decode b_Model_add 59 = .ok (.iload_n 1, 1) := by decide +kernel
theorem d_Model_add_60 : decode b_Model_add 60 = .ok (.iastore, 1) := by decide +kernel
theorem d_Model_add_61 : decode b_Model_add 61 = .ok (.aload_n 0, 1) := by decide +kernel
theorem d_Model_add_62 : decode b_Model_add 62 = .ok (.getfield 16, 3) := by decide +kernel
theorem d_Model_add_65 : decode b_Model_add 65 = .ok (.aload_n 0, 1) := by decide +kernel
theorem d_Model_add_66 : decode b_Model_add 66 = .ok (.getfield 63, 3) := by decide +kernel
theorem d_Model_add_69 : decode b_Model_add 69 = .ok (.lload_n 2, 1) := by decide +kernel
theorem d_Model_add_70 : decode b_Model_add 70 = .ok (.lastore, 1) := by decide +kernel
theorem d_Model_add_71 : decode b_Model_add 71 = .ok (.aload_n 0, 1) := by decide +kernel
theorem d_Model_add_72 : decode b_Model_add 72 = .ok (.getfield 20, 3) := by decide +kernel
theorem d_Model_add_75 : decode b_Model_add 75 = .ok (.aload_n 0, 1) := by decide +kernel
theorem d_Model_add_76 : decode b_Model_add 76 = .ok (.getfield 63, 3) := by decide +kernel
theorem d_Model_add_79 : decode b_Model_add 79 = .ok (.iload_n 1, 1) := by decide +kernel
theorem d_Model_add_80 : decode b_Model_add 80 = .ok (.iconst 1, 1) := by decide +kernel
theorem d_Model_add_81 : decode b_Model_add 81 = .ok (.if_icmp .ne 13, 3) := by decide +kernel
theorem d_Model_add_84 : decode b_Model_add 84 = .ok (.lload 4, 2) := by decide +kernel
theorem d_Model_add_86 : decode b_Model_add 86 = .ok (.iload 6, 2) := by decide +kernel
theorem d_Model_add_88 : decode b_Model_add 88 = .ok (.invokestatic 70, 3) := by decide +kernel
theorem d_Model_add_91 : decode b_Model_add 91 = .ok (.goto 19, 3) := by decide +kernel
theorem d_Model_add_94 : decode b_Model_add 94 = .ok (.iload_n 1, 1) := by decide +kernel
theorem d_Model_add_95 : decode b_Model_add 95 = .ok (.iconst 4, 1) := by decide +kernel
theorem d_Model_add_96 : decode b_Model_add 96 = .ok (.if_icmp .ne 12, 3) := by decide +kernel
theorem d_Model_add_99 : decode b_Model_add 99 = .ok (.lload 4, 2) := by decide +kernel
theorem d_Model_add_101 : decode b_Model_add 101 = .ok (.iconst 4, 1) := by decide +kernel
theorem d_Model_add_102 : decode b_Model_add 102 = .ok (.invokestatic 70, 3) := by decide +kernel
theorem d_Model_add_105 : decode b_Model_add 105 = .ok (.goto 5, 3) := by decide +kernel
theorem d_Model_add_108 : decode b_Model_add 108 = .ok (.lload 4, 2) := by decide +kernel
theorem d_Model_add_110 : decode b_Model_add 110 = .ok (.lastore, 1) := by decide +kernel
theorem d_Model_add_111 : decode b_Model_add 111 = .ok (.aload_n 0, 1) := by decide +kernel
theorem d_Model_add_112 : decode b_Model_add 112 = .ok (.getfield 13, 3) := by decide +kernel
theorem d_Model_add_115 : decode b_Model_add 115 = .ok (.aload_n 0, 1) := by decide +kernel
theorem d_Model_add_116 : decode b_Model_add 116 = .ok (.getfield 63, 3) := by decide +kernel
theorem d_Model_add_119 : decode b_Model_add 119 = .ok (.iload_n 1, 1) := by decide +kernel
theorem d_Model_add_120 : decode b_Model_add 120 = .ok (.iconst 1, 1) := by decide +kernel
theorem d_Model_add_121 : decode b_Model_add 121 = .ok (.if_icmp .eq 8, 3) := by decide +kernel
theorem d_Model_add_124 : decode b_Model_add 124 = .ok (.iload_n 1, 1) := by decide +kernel
theorem d_Model_add_125 : decode b_Model_add 125 = .ok (.iconst 2, 1) := by decide +kernel
theorem d_Model_add_126 : decode b_Model_add 126 = .ok (.if_icmp .ne 8, 3) := by decide +kernel
theorem d_Model_add_129 : decode b_Model_add 129 = .ok (.iload 6, 2) := by decide +kernel
theorem d_Model_add_131 : decode b_Model_add 131 = .ok (.goto 4, 3) := by decide +kernel
theorem d_Model_add_134 : decode b_Model_add 134 = .ok (.iconst 0, 1) := by decide +kernel
theorem d_Model_add_135 : decode b_Model_add 135 = .ok (.iastore, 1) := by decide +kernel
theorem d_Model_add_136 : decode b_Model_add 136 = .ok (.aload_n 0, 1) := by decide +kernel
theorem d_Model_add_137 : decode b_Model_add 137 = .ok (.dup, 1) := by decide +kernel
theorem d_Model_add_138 : decode b_Model_add 138 = .ok (.getfield 63, 3) := by decide +kernel
theorem d_Model_add_141 : decode b_Model_add 141 = .ok (.iconst 1, 1) := by decide +kernel
theorem d_Model_add_142 : decode b_Model_add 142 = .ok (.iadd, 1) := by decide +kernel
theorem d_Model_add_143 : decode b_Model_add 143 = .ok (.putfield 63, 3) := by decide +kernel
theorem d_Model_add_146 : decode b_Model_add 146 = .ok (.aload_n 0, 1) := by decide +kernel
theorem d_Model_add_147 : decode b_Model_add 147 = .ok (.getfield 63, 3) := by decide +kernel
theorem d_Model_add_150 : decode b_Model_add 150 = .ok (.ireturn, 1) := by decide +kernel
theorem d_Model_drop_0 : decode b_Model_drop 0 = .ok (.aload_n 0, 1) := by decide +kernel
theorem d_Model_drop_1 : decode b_Model_drop 1 = .ok (.iload_n 1, 1) := by decide +kernel
theorem d_Model_drop_2 : decode b_Model_drop 2 = .ok (.ifCond .lt 11, 3) := by decide +kernel
theorem d_Model_drop_5 : decode b_Model_drop 5 = .ok (.iload_n 1, 1) := by decide +kernel
theorem d_Model_drop_6 : decode b_Model_drop 6 = .ok (.aload_n 0, 1) := by decide +kernel
theorem d_Model_drop_7 : decode b_Model_drop 7 = .ok (.getfield 63, 3) := by decide +kernel
theorem d_Model_drop_10 : decode b_Model_drop 10 = .ok (.if_icmp .le 7, 3) := by decide +kernel
theorem d_Model_drop_13 : decode b_Model_drop 13 = .ok (.iconst 1, 1) := by decide +kernel
theorem d_Model_drop_14 : decode b_Model_drop 14 = .ok (.goto 4, 3) := by decide +kernel
theorem d_Model_drop_17 : decode b_Model_drop 17 = .ok (.iconst 0, 1) := by decide +kernel
theorem d_Model_drop_18 : decode b_Model_drop 18 = .ok (.iconst 0, 1) := by decide +kernel
theorem d_Model_drop_19 : decode b_Model_drop 19 = .ok (.iconst 0, 1) := by decide +kernel
theorem d_Model_drop_20 : decode b_Model_drop 20 = .ok (.invokevirtual 66, 3) := by decide +kernel
theorem d_Model_drop_23 : decode b_Model_drop 23 = .ok (.ifCond .eq 5, 3) := by decide +kernel
theorem d_Model_drop_26 : decode b_Model_drop 26 = .ok (.iconst 0, 1) := by decide +kernel
theorem d_Model_drop_27 : decode b_Model_drop 27 = .ok (.ireturn, 1) := by decide +kernel
theorem d_Model_drop_28 : decode b_Model_drop 28 = .ok (.aload_n 0, 1) := by decide +kernel
theorem d_Model_drop_29 : decode b_Model_drop 29 = .ok (.getfield 63, 3) := by decide +kernel
theorem d_Model_drop_32 : decode b_Model_drop 32 = .ok (.iload_n 1, 1) := by decide +kernel
theorem d_Model_drop_33 : decode b_Model_drop 33 = .ok (.isub, 1) := by decide +kernel
theorem d_Model_drop_34 : decode b_Model_drop 34 = .ok (.istore_n 2, 1) := by decide +kernel
theorem d_Model_drop_35 : decode b_Model_drop 35 = .ok (.aload_n 0, 1) := by decide +kernel
theorem d_Model_drop_36 : decode b_Model_drop 36 = .ok (.iload_n 1, 1) := by decide +kernel
theorem d_Model_drop_37 : decode b_Model_drop 37 = .ok (.putfield 63, 3) := by decide +kernel
theorem d_Model_drop_40 : decode b_Model_drop 40 = .ok (.iload_n 2, 1) := by decide +kernel
theorem d_Model_drop_41 : decode b_Model_drop 41 = .ok (.ireturn, 1) := by decide +kernel
theorem d_Model_put_0 : decode b_Model_put 0 = .ok (.aload_n 0, 1) := by decide +kernel
theorem d_Model_put_1 : decode b_Model_put 1 = .ok (.getfield 38, 3) := by decide +kernel
theorem d_Model_put_4 : decode b_Model_put 4 = .ok (.aload_n 0, 1) := by decide +kernel
theorem d_Model_put_5 : decode b_Model_put 5 = .ok (.getfield 74, 3) := by decide +kernel
theorem d_Model_put_8 : decode b_Model_put 8 = .ok (.iload_n 1, 1) := by decide +kernel
theorem d_Model_put_9 : decode b_Model_put 9 = .ok (.sipush 255, 3) := by decide +kernel
theorem d_Model_put_12 : decode b_Model_put 12 = .ok (.iand, 1) := by decide +kernel
theorem d_Model_put_13 : decode b_Model_put 13 = .ok (.iastore, 1) := by decide +kernel
theorem d_Model_put_14 : decode b_Model_put 14 = .ok (.aload_n 0, 1) := by decide +kernel
theorem d_Model_put_15 : decode b_Model_put 15 = .ok (.dup, 1) := by decide +kernel
theorem d_Model_put_16 : decode b_Model_put 16 = .ok (.getfield 74, 3) := by decide +kernel
theorem d_Model_put_19 : decode b_Model_put 19 = .ok (.iconst 1, 1) := by decide +kernel
theorem d_Model_put_20 : decode b_Model_put 20 = .ok (.iadd, 1) := by decide +kernel
theorem d_Model_put_21 : decode b_Model_put 21 = .ok (.putfield 74, 3) := by decide +kernel
theorem d_Model_put_24 : decode b_Model_put 24 = .ok (.return_, 1) := by decide +kernel
theorem d_Model_varint_0 : decode b_Model_varint 0 = .ok (.lload_n 1, 1) := by decide +kernel
theorem d_Model_varint_1 : decode b_Model_varint 1 = .ok (.lstore_n 3, 1) := by decide +kernel
theorem d_Model_varint_2 : decode b_Model_varint 2 = .ok (.lload_n 3, 1) := by decide +kernel
theorem d_Model_varint_3 : decode b_Model_varint 3 = .ok (.ldc2_w 77, 3) := by decide +kernel
theorem d_Model_varint_6 : decode b_Model_varint 6 = .ok (.lcmp, 1) := by decide +kernel
theorem d_Model_varint_7 : decode b_Model_varint 7 = .ok (.ifCond .le 25, 3) := by decide +kernel
theorem d_Model_varint_10 : decode b_Model_varint 10 = .ok (.aload_n 0, 1) := by decide +kernel
theorem d_Model_varint_11 : decode b_Model_varint 11 = .ok (.lload_n 3, 1) := by decide +kernel
theorem d_Model_varint_12 : decode b_Model_varint 12 = .ok (.ldc2_w 77, 3) := by decide +kernel
theorem d_Model_varint_15 : decode b_Model_varint 15 = .ok (.land, 1) := by decide +kernel
theorem d_Model_varint_16 : decode b_Model_varint 16 = .ok (.l2i, 1) := by decide +kernel
theorem d_Model_varint_17 : decode b_Model_varint 17 = .ok (.sipush 128, 3) := by decide +kernel
theorem d_Model_varint_20 : decode b_Model_varint 20 = .ok (.ior, 1) := by decide +kernel
theorem d_Model_varint_21 : decode b_Model_varint 21 = .ok (.invokevirtual 79, 3) := by decide +kernel
theorem d_Model_varint_24 : decode b_Model_varint 24 = .ok (.lload_n 3, 1) := by decide +kernel
theorem d_Model_varint_25 : decode b_Model_varint 25 = .ok (.bipush 7, 2) := by decide +kernel
theorem d_Model_varint_27 : decode b_Model_varint 27 = .ok (.lshr, 1) := by decide +kernel
theorem d_Model_varint_28 : decode b_Model_varint 28 = .ok (.lstore_n 3, 1) := by decide +kernel
theorem d_Model_varint_29 : decode b_Model_varint 29 = .ok (.goto (-27), 3) := by decide +kernel
theorem d_Model_varint_32 : decode b_Model_varint 32 = .ok (.aload_n 0, 1) := by decide +kernel
theorem d_Model_varint_33 : decode b_Model_varint 33 = .ok (.lload_n 3, 1) := by decide +kernel
theorem d_Model_varint_34 : decode b_Model_varint 34 = .ok (.l2i, 1) := by decide +kernel
theorem d_Model_varint_35 : decode b_Model_varint 35 = .ok (.invokevirtual 79, 3) := by decide +kernel
theorem d_Model_varint_38 : decode b_Model_varint 38 = .ok (.return_, 1) := by decide +kernel
theorem d_Model_bringsSame_0 : decode b_Model_bringsSame 0 = .ok (.aload_n 0, 1) := by decide +kernel
theorem d_Model_bringsSame_1 : decode b_Model_bringsSame 1 = .ok (.getfield 7, 3) := by decide +kernel
theorem d_Model_bringsSame_4 : decode b_Model_bringsSame 4 = .ok (.iload_n 1, 1) := by decide +kernel
theorem d_Model_bringsSame_5 : decode b_Model_bringsSame 5 = .ok (.iaload, 1) := by decide +kernel
theorem d_Model_bringsSame_6 : decode b_Model_bringsSame 6 = .ok (.aload_n 0, 1) := by decide +kernel
theorem d_Model_bringsSame_7 : decode b_Model_bringsSame 7 = .ok (.getfield 7, 3) := by decide +kernel
theorem d_Model_bringsSame_10 : decode b_Model_bringsSame 10 = .ok (.iload_n 2, 1) := by decide +kernel
theorem d_Model_bringsSame_11 : decode b_Model_bringsSame 11 = .ok (.iaload, 1) := by decide +kernel
theorem d_Model_bringsSame_12 : decode b_Model_bringsSame 12 = .ok (.if_icmp .ne 38, 3) := by decide +kernel
theorem d_Model_bringsSame_15 : decode b_Model_bringsSame 15 = .ok (.aload_n 0, 1) := by decide +kernel
theorem d_Model_bringsSame_16 : decode b_Model_bringsSame 16 = .ok (.getfield 20, 3) := by decide +kernel
theorem d_Model_bringsSame_19 : decode b_Model_bringsSame 19 = .ok (.iload_n 1, 1) := by decide +kernel
theorem d_Model_bringsSame_20 : decode b_Model_bringsSame 20 = .ok (.laload, 1) := by decide +kernel
theorem d_Model_bringsSame_21 : decode b_Model_bringsSame 21 = .ok (.aload_n 0, 1) := by decide +kernel
theorem d_Model_bringsSame_22 : decode b_Model_bringsSame 22 = .ok (.getfield 20, 3) := by decide +kernel
theorem d_Model_bringsSame_25 : decode b_Model_bringsSame 25 = .ok (.iload_n 2, 1) := by decide +kernel
theorem d_Model_bringsSame_26 : decode b_Model_bringsSame 26 = .ok (.laload, 1) := by decide +kernel
theorem d_Model_bringsSame_27 : decode b_Model_bringsSame 27 = .ok (.lcmp, 1) := by decide +kernel
theorem d_Model_bringsSame_28 : decode b_Model_bringsSame 28 = .ok (.ifCond .ne 22, 3) := by decide +kernel
theorem d_Model_bringsSame_31 : decode b_Model_bringsSame 31 = .ok (.aload_n 0, 1) := by decide +kernel
theorem d_Model_bringsSame_32 : decode b_Model_bringsSame 32 = .ok (.getfield 13, 3) := by decide +kernel
theorem d_Model_bringsSame_35 : decode b_Model_bringsSame 35 = .ok (.iload_n 1, 1) := by decide +kernel
theorem d_Model_bringsSame_36 : decode b_Model_bringsSame 36 = .ok (.iaload, 1) := by decide +kernel
theorem d_Model_bringsSame_37 : decode b_Model_bringsSame 37 = .ok (.aload_n 0, 1) := by decide +kernel
theorem d_Model_bringsSame_38 : decode b_Model_bringsSame 38 = .ok (.getfield 13, 3) := by decide +kernel
theorem d_Model_bringsSame_41 : decode b_Model_bringsSame 41 = .ok (.iload_n 2, 1) := by decide +kernel
theorem d_Model_bringsSame_42 : decode b_Model_bringsSame 42 = .ok (.iaload, 1) := by decide +kernel
theorem d_Model_bringsSame_43 : decode b_Model_bringsSame 43 = .ok (.if_icmp .ne 7, 3) := by decide +kernel
theorem d_Model_bringsSame_46 : decode b_Model_bringsSame 46 = .ok (.iconst 1, 1) := by decide +kernel
theorem d_Model_bringsSame_47 : decode b_Model_bringsSame 47 = .ok (.goto 4, 3) := by decide +kernel
theorem d_Model_bringsSame_50 : decode b_Model_bringsSame 50 = .ok (.iconst 0, 1) := by decide +kernel
theorem d_Model_bringsSame_51 : decode b_Model_bringsSame 51 = .ok (.ireturn, 1) := by decide +kernel
theorem d_Model_isAlike_0 : decode b_Model_isAlike 0 = .ok (.iload_n 1, 1) := by decide +kernel
theorem d_Model_isAlike_1 : decode b_Model_isAlike 1 = .ok (.ifCond .le 36, 3) := by decide +kernel
theorem d_Model_isAlike_4 : decode b_Model_isAlike 4 = .ok (.aload_n 0, 1) := by decide +kernel
theorem d_Model_isAlike_5 : decode b_Model_isAlike 5 = .ok (.getfield 16, 3) := by decide +kernel
theorem d_Model_isAlike_8 : decode b_Model_isAlike 8 = .ok (.iload_n 1, 1) := by decide +kernel
theorem d_Model_isAlike_9 : decode b_Model_isAlike 9 = .ok (.laload, 1) := by decide +kernel
theorem d_Model_isAlike_10 : decode b_Model_isAlike 10 = .ok (.aload_n 0, 1) := by decide +kernel
theorem d_Model_isAlike_11 : decode b_Model_isAlike 11 = .ok (.getfield 16, 3) := by decide +kernel
theorem d_Model_isAlike_14 : decode b_Model_isAlike 14 = .ok (.iload_n 1, 1) := by decide +kernel
theorem d_Model_isAlike_15 : decode b_Model_isAlike 15 = .ok (.iconst 1, 1) := by decide +kernel
theorem d_Model_isAlike_16 : decode b_Model_isAlike 16 = .ok (.isub, 1) := by decide +kernel
theorem d_Model_isAlike_17 : decode b_Model_isAlike 17 = .ok (.laload, 1) := by decide +kernel
theorem d_Model_isAlike_18 : decode b_Model_isAlike 18 = .ok (.lcmp, 1) := by decide +kernel
theorem d_Model_isAlike_19 : decode b_Model_isAlike 19 = .ok (.ifCond .ne 18, 3) := by decide +kernel
theorem d_Model_isAlike_22 : decode b_Model_isAlike 22 = .ok (.aload_n 0, 1) := by decide +kernel
theorem d_Model_isAlike_23 : decode b_Model_isAlike 23 = .ok (.iload_n 1, 1) := by decide +kernel
theorem d_Model_isAlike_24 : decode b_Model_isAlike 24 = .ok (.iload_n 1, 1) := by decide +kernel
theorem d_Model_isAlike_25 : decode b_Model_isAlike 25 = .ok (.iconst 1, 1) := by decide +kernel
theorem d_Model_isAlike_26 : decode b_Model_isAlike 26 = .ok (.isub, 1) := by decide +kernel
theorem d_Model_isAlike_27 : decode b_Model_isAlike 27 = .ok (.invokevirtual 83, 3) := by decide +kernel
theorem d_Model_isAlike_30 : decode b_Model_isAlike 30 = .ok (.ifCond .eq 7, 3) := by decide +kernel
theorem d_Model_isAlike_33 : decode b_Model_isAlike 33 = .ok (.iconst 1, 1) := by decide +kernel
theorem d_Model_isAlike_34 : decode b_Model_isAlike 34 = .ok (.goto 4, 3) := by decide +kernel
theorem d_Model_isAlike_37 : decode b_Model_isAlike 37 = .ok (.iconst 0, 1) := by decide +kernel
theorem d_Model_isAlike_38 : decode b_Model_isAlike 38 = .ok (.ireturn, 1) := by decide +kernel
theorem d_Model_copyOf_0 : decode b_Model_copyOf 0 = .ok (.iconst 0, 1) := by decide +kernel
theorem d_Model_copyOf_1 : decode b_Model_copyOf 1 = .ok (.istore_n 2, 1) := by decide +kernel
theorem d_Model_copyOf_2 : decode b_Model_copyOf 2 = .ok (.iload_n 1, 1) := by decide +kernel
theorem d_Model_copyOf_3 : decode b_Model_copyOf 3 = .ok (.iconst 1, 1) := by decide +kernel
theorem d_Model_copyOf_4 : decode b_Model_copyOf 4 = .ok (.isub, 1) := by decide +kernel
theorem d_Model_copyOf_5 : decode b_Model_copyOf 5 = .ok (.istore_n 3, 1) := by decide +kernel
theorem d_Model_copyOf_6 : decode b_Model_copyOf 6 = .ok (.iload_n 3, 1) := by decide +kernel
theorem d_Model_copyOf_7 : decode b_Model_copyOf 7 = .ok (.ifCond .lt 52, 3) := by decide +kernel
theorem d_Model_copyOf_10 : decode b_Model_copyOf 10 = .ok (.iload_n 2, 1) := by decide +kernel
theorem d_Model_copyOf_11 : decode b_Model_copyOf 11 = .ok (.bipush 20, 2) := by decide +kernel
theorem d_Model_copyOf_13 : decode b_Model_copyOf 13 = .ok (.if_icmp .ge 46, 3) := by decide +kernel
theorem d_Model_copyOf_16 : decode b_Model_copyOf 16 = .ok (.aload_n 0, 1) := by decide +kernel
theorem d_Model_copyOf_17 : decode b_Model_copyOf 17 = .ok (.getfield 13, 3) := by decide +kernel
theorem d_Model_copyOf_20 : decode b_Model_copyOf 20 = .ok (.iload_n 1, 1) := by decide +kernel
theorem d_Model_copyOf_21 : decode b_Model_copyOf 21 = .ok (.iaload, 1) := by decide +kernel
theorem d_Model_copyOf_22 : decode b_Model_copyOf 22 = .ok (.iconst 1, 1) := by decide +kernel
theorem d_Model_copyOf_23 : decode b_Model_copyOf 23 = .ok (.if_icmp .le 36, 3) := by decide +kernel
theorem d_Model_copyOf_26 : decode b_Model_copyOf 26 = .ok (.aload_n 0, 1) := by decide +kernel
theorem d_Model_copyOf_27 : decode b_Model_copyOf 27 = .ok (.getfield 7, 3) := by decide +kernel
theorem d_Model_copyOf_30 : decode b_Model_copyOf 30 = .ok (.iload_n 3, 1) := by decide +kernel
theorem d_Model_copyOf_31 : decode b_Model_copyOf 31 = .ok (.iaload, 1) := by decide +kernel
theorem d_Model_copyOf_32 : decode b_Model_copyOf 32 = .ok (.iconst 1, 1) := by decide +kernel
theorem d_Model_copyOf_33 : decode b_Model_copyOf 33 = .ok (.if_icmp .eq 6, 3) := by decide +kernel
theorem d_Model_copyOf_36 : decode b_Model_copyOf 36 = .ok (.goto 17, 3) := by decide +kernel
theorem d_Model_copyOf_39 : decode b_Model_copyOf 39 = .ok (.iinc 2 1, 3) := by decide +kernel
theorem d_Model_copyOf_42 : decode b_Model_copyOf 42 = .ok (.aload_n 0, 1) := by decide +kernel
theorem d_Model_copyOf_43 : decode b_Model_copyOf 43 = .ok (.iload_n 1, 1) := by decide +kernel
theorem d_Model_copyOf_44 : decode b_Model_copyOf 44 = .ok (.iload_n 3, 1) := by decide +kernel
theorem d_Model_copyOf_45 : decode b_Model_copyOf 45 = .ok (.invokevirtual 83, 3) := by decide +kernel
theorem d_Model_copyOf_48 : decode b_Model_copyOf 48 = .ok (.ifCond .eq 5, 3) := by decide +kernel
theorem d_Model_copyOf_51 : decode b_Model_copyOf 51 = .ok (.iload_n 2, 1) := by decide +kernel
theorem d_Model_copyOf_52 : decode b_Model_copyOf 52 = .ok (.ireturn, 1) := by decide +kernel
theorem d_Model_copyOf_53 : decode b_Model_copyOf 53 = .ok (.iinc 3 (-1), 3) := by decide +kernel
theorem d_Model_copyOf_56 : decode b_Model_copyOf 56 = .ok (.goto (-50), 3) := by decide +kernel
theorem d_Model_copyOf_59 : decode b_Model_copyOf 59 = .ok (.iconst 0, 1) := by decide +kernel
theorem d_Model_copyOf_60 : decode b_Model_copyOf 60 = .ok (.ireturn, 1) := by decide +kernel
theorem d_Model_isAsFar_0 : decode b_Model_isAsFar 0 = .ok (.iload_n 1, 1) := by decide +kernel
theorem d_Model_isAsFar_1 : decode b_Model_isAsFar 1 = .ok (.iconst 1, 1) := by decide +kernel
theorem d_Model_isAsFar_2 : decode b_Model_isAsFar 2 = .ok (.isub, 1) := by decide +kernel
theorem d_Model_isAsFar_3 : decode b_Model_isAsFar 3 = .ok (.istore_n 2, 1) := by decide +kernel
theorem d_Model_isAsFar_4 : decode b_Model_isAsFar 4 = .ok (.iload_n 2, 1) := by decide +kernel
theorem d_Model_isAsFar_5 : decode b_Model_isAsFar 5 = .ok (.ifCond .lt 19, 3) := by decide +kernel
theorem d_Model_isAsFar_8 : decode b_Model_isAsFar 8 = .ok (.aload_n 0, 1) := by decide +kernel
theorem d_Model_isAsFar_9 : decode b_Model_isAsFar 9 = .ok (.getfield 7, 3) := by decide +kernel
theorem d_Model_isAsFar_12 : decode b_Model_isAsFar 12 = .ok (.iload_n 2, 1) := by decide +kernel
theorem d_Model_isAsFar_13 : decode b_Model_isAsFar 13 = .ok (.iaload, 1) := by decide +kernel
theorem d_Model_isAsFar_14 : decode b_Model_isAsFar 14 = .ok (.iconst 3, 1) := by decide +kernel
theorem d_Model_isAsFar_15 : decode b_Model_isAsFar 15 = .ok (.if_icmp .eq 9, 3) := by decide +kernel
theorem d_Model_isAsFar_18 : decode b_Model_isAsFar 18 = .ok (.iinc 2 (-1), 3) := by decide +kernel
theorem d_Model_isAsFar_21 : decode b_Model_isAsFar 21 = .ok (.goto (-17), 3) := by decide +kernel
theorem d_Model_isAsFar_24 : decode b_Model_isAsFar 24 = .ok (.iload_n 2, 1) := by decide +kernel
theorem d_Model_isAsFar_25 : decode b_Model_isAsFar 25 = .ok (.ifCond .lt 23, 3) := by decide +kernel
theorem d_Model_isAsFar_28 : decode b_Model_isAsFar 28 = .ok (.aload_n 0, 1) := by decide +kernel
theorem d_Model_isAsFar_29 : decode b_Model_isAsFar 29 = .ok (.getfield 20, 3) := by decide +kernel
theorem d_Model_isAsFar_32 : decode b_Model_isAsFar 32 = .ok (.iload_n 2, 1) := by decide +kernel
theorem d_Model_isAsFar_33 : decode b_Model_isAsFar 33 = .ok (.laload, 1) := by decide +kernel
theorem d_Model_isAsFar_34 : decode b_Model_isAsFar 34 = .ok (.aload_n 0, 1) := by decide +kernel
theorem d_Model_isAsFar_35 : decode b_Model_isAsFar 35 = .ok (.getfield 20, 3) := by decide +kernel
theorem d_Model_isAsFar_38 : decode b_Model_isAsFar 38 = .ok (.iload_n 1, 1) := by decide +kernel
theorem d_Model_isAsFar_39 : decode b_Model_isAsFar 39 = .ok (.laload, 1) := by decide +kernel
theorem d_Model_isAsFar_40 : decode b_Model_isAsFar 40 = .ok (.lcmp, 1) := by decide +kernel
theorem d_Model_isAsFar_41 : decode b_Model_isAsFar 41 = .ok (.ifCond .ne 7, 3) := by decide +kernel
theorem d_Model_isAsFar_44 : decode b_Model_isAsFar 44 = .ok (.iconst 1, 1) := by decide +kernel
theorem d_Model_isAsFar_45 : decode b_Model_isAsFar 45 = .ok (.goto 4, 3) := by decide +kernel
theorem d_Model_isAsFar_48 : decode b_Model_isAsFar 48 = .ok (.iconst 0, 1) := by decide +kernel
theorem d_Model_isAsFar_49 : decode b_Model_isAsFar 49 = .ok (.ireturn, 1) := by decide +kernel
theorem d_Model_run_0 : decode b_Model_run 0 = .ok (.aload_n 0, 1) := by decide +kernel
theorem d_Model_run_1 : decode b_Model_run 1 = .ok (.dup, 1) := by decide +kernel
theorem d_Model_run_2 : decode b_Model_run 2 = .ok (.getfield 87, 3) := by decide +kernel
theorem d_Model_run_5 : decode b_Model_run 5 = .ok (.iconst 1, 1) := by decide +kernel
theorem d_Model_run_6 : decode b_Model_run 6 = .ok (.iadd, 1) := by decide +kernel
theorem d_Model_run_7 : decode b_Model_run 7 = .ok (.putfield 87, 3) := by decide +kernel
theorem d_Model_run_10 : decode b_Model_run 10 = .ok (.aload_n 0, 1) := by decide +kernel
theorem d_Model_run_11 : decode b_Model_run 11 = .ok (.iconst 5, 1) := by decide +kernel
theorem d_Model_run_12 : decode b_Model_run 12 = .ok (.iload_n 1, 1) := by decide +kernel
theorem d_Model_run_13 : decode b_Model_run 13 = .ok (.bipush 16, 2) := by decide +kernel
theorem d_Model_run_15 : decode b_Model_run 15 = .ok (.if_icmp .ge 7, 3) := by decide +kernel
theorem d_Model_run_18 : decode b_Model_run 18 = .ok (.iload_n 1, 1) := by decide +kernel
theorem d_Model_run_19 : decode b_Model_run 19 = .ok (.goto 4, 3) := by decide +kernel
theorem d_Model_run_22 : decode b_Model_run 22 = .ok (.iconst 0, 1) := by decide +kernel
theorem d_Model_run_23 : decode b_Model_run 23 = .ok (.iconst 4, 1) := by decide +kernel
theorem d_Model_run_24 : decode b_Model_run 24 = .ok (.ishl, 1) := by decide +kernel
theorem d_Model_run_25 : decode b_Model_run 25 = .ok (.ior, 1) := by decide +kernel
theorem d_Model_run_26 : decode b_Model_run 26 = .ok (.invokevirtual 79, 3) := by decide +kernel
theorem d_Model_run_29 : decode b_Model_run 29 = .ok (.iload_n 1, 1) := by decide +kernel
theorem d_Model_run_30 : decode b_Model_run 30 = .ok (.bipush 15, 2) := by decide +kernel
theorem d_Model_run_32 : decode b_Model_run 32 = .ok (.if_icmp .le 9, 3) := by decide +kernel
theorem d_Model_run_35 : decode b_Model_run 35 = .ok (.aload_n 0, 1) := by decide +kernel
theorem d_Model_run_36 : decode b_Model_run 36 = .ok (.iload_n 1, 1) := by decide +kernel
theorem d_Model_run_37 : decode b_Model_run 37 = .ok (.i2l, 1) := by decide +kernel
theorem d_Model_run_38 : decode b_Model_run 38 = .ok (.invokevirtual 90, 3) := by decide +kernel
theorem d_Model_run_41 : decode b_Model_run 41 = .ok (.return_, 1) := by decide +kernel
theorem d_Model_entry_0 : decode b_Model_entry 0 = .ok (.aload_n 0, 1) := by decide +kernel
theorem d_Model_entry_1 : decode b_Model_entry 1 = .ok (.getfield 16, 3) := by decide +kernel
theorem d_Model_entry_4 : decode b_Model_entry 4 = .ok (.iload_n 1, 1) := by decide +kernel
theorem d_Model_entry_5 : decode b_Model_entry 5 = .ok (.laload, 1) := by decide +kernel
theorem d_Model_entry_6 : decode b_Model_entry 6 = .ok (.iload_n 1, 1) := by decide +kernel
theorem d_Model_entry_7 : decode b_Model_entry 7 = .ok (.ifCond .ne 7, 3) := by decide +kernel
theorem d_Model_entry_10 : decode b_Model_entry 10 = .ok (.lconst 0, 1) := by decide +kernel
theorem d_Model_entry_11 : decode b_Model_entry 11 = .ok (.goto 11, 3) := by decide +kernel
theorem d_Model_entry_14 : decode b_Model_entry 14 = .ok (.aload_n 0, 1) := by decide +kernel
theorem d_Model_entry_15 : decode b_Model_entry 15 = .ok (.getfield 16, 3) := by decide +kernel
theorem d_Model_entry_18 : decode b_Model_entry 18 = .ok (.iload_n 1, 1) := by decide +kernel
theorem d_Model_entry_19 : decode b_Model_entry 19 = .ok (.iconst 1, 1) := by decide +kernel
theorem d_Model_entry_20 : decode b_Model_entry 20 = .ok (.isub, 1) := by decide +kernel
theorem d_Model_entry_21 : decode b_Model_entry 21 = .ok (.laload, 1) := by decide +kernel
theorem d_Model_entry_22 : decode b_Model_entry 22 = .ok (.lcmp, 1) := by decide +kernel
theorem d_Model_entry_23 : decode b_Model_entry 23 = .ok (.ifCond .ne 7, 3) := by decide +kernel
theorem d_Model_entry_26 : decode b_Model_entry 26 = .ok (.iconst 1, 1) := by decide +kernel
theorem d_Model_entry_27 : decode b_Model_entry 27 = .ok (.goto 4, 3) := by decide +kernel
theorem d_Model_entry_30 : decode b_Model_entry 30 = .ok (.iconst 0, 1) := by decide +kernel
theorem d_Model_entry_31 : decode b_Model_entry 31 = .ok (.istore_n 2, 1) := by decide +kernel
theorem d_Model_entry_32 : decode b_Model_entry 32 = .ok (.aload_n 0, 1) := by decide +kernel
theorem d_Model_entry_33 : decode b_Model_entry 33 = .ok (.getfield 7, 3) := by decide +kernel
theorem d_Model_entry_36 : decode b_Model_entry 36 = .ok (.iload_n 1, 1) := by decide +kernel
theorem d_Model_entry_37 : decode b_Model_entry 37 = .ok (.iaload, 1) := by decide +kernel
theorem d_Model_entry_38 : decode b_Model_entry 38 = .ok (.iconst 1, 1) := by decide +kernel
theorem d_Model_entry_39 : decode b_Model_entry 39 = .ok (.if_icmp .ne 11, 3) := by decide +kernel
theorem d_Model_entry_42 : decode b_Model_entry 42 = .ok (.aload_n 0, 1) := by decide +kernel
theorem d_Model_entry_43 : decode b_Model_entry 43 = .ok (.iload_n 1, 1) := by decide +kernel
theorem d_Model_entry_44 : decode b_Model_entry 44 = .ok (.invokevirtual 94, 3) := by decide +kernel
theorem d_Model_entry_47 : decode b_Model_entry 47 = .ok (.goto 4, 3) := by decide +kernel
theorem d_Model_entry_50 : decode b_Model_entry 50 = .ok (.iconst 0, 1) := by decide +kernel
theorem d_Model_entry_51 : decode b_Model_entry 51 = .ok (.istore_n 3, 1) := by decide +kernel
theorem d_Model_entry_52 : decode b_Model_entry 52 = .ok (.aload_n 0, 1) := by decide +kernel
theorem d_Model_entry_53 : decode b_Model_entry 53 = .ok (.getfield 7, 3) := by decide +kernel
theorem d_Model_entry_56 : decode b_Model_entry 56 = .ok (.iload_n 1, 1) := by decide +kernel
theorem d_Model_entry_57 : decode b_Model_entry 57 = .ok (.iaload, 1) := by decide +kernel
theorem d_Model_entry_58 : decode b_Model_entry 58 = .ok (.iconst 3, 1) := by decide +kernel
theorem d_Model_entry_59 : decode b_Model_entry 59 = .ok (.if_icmp .ne 15, 3) := by decide +kernel
theorem d_Model_entry_62 : decode b_Model_entry 62 = .ok (.aload_n 0, 1) := by decide +kernel
theorem d_Model_entry_63 : decode b_Model_entry 63 = .ok (.iload_n 1, 1) := by decide +kernel
theorem d_Model_entry_64 : decode b_Model_entry 64 = .ok (.invokevirtual 98, 3) := by decide +kernel
theorem d_Model_entry_67 : decode b_Model_entry 67 = .ok (.ifCond .eq 7, 3) := by decide +kernel
theorem d_Model_entry_70 : decode b_Model_entry 70 = .ok (.iconst 1, 1) := by decide +kernel
theorem d_Model_entry_71 : decode b_Model_entry 71 = .ok (.goto 4, 3) := by decide +kernel
theorem d_Model_entry_74 : decode b_Model_entry 74 = .ok (.iconst 0, 1) := by decide +kernel
theorem d_Model_entry_75 : decode b_Model_entry 75 = .ok (.istore 4, 2) := by decide +kernel
theorem d_Model_entry_77 : decode b_Model_entry 77 = .ok (.aload_n 0, 1) := by decide +kernel
theorem d_Model_entry_78 : decode b_Model_entry 78 = .ok (.getfield 7, 3) := by decide +kernel
theorem d_Model_entry_81 : decode b_Model_entry 81 = .ok (.iload_n 1, 1) := by decide +kernel
theorem d_Model_entry_82 : decode b_Model_entry 82 = .ok (.iaload, 1) := by decide +kernel
theorem d_Model_entry_83 : decode b_Model_entry 83 = .ok (.iconst 1, 1) := by decide +kernel
theorem d_Model_entry_84 : decode b_Model_entry 84 = .ok (.if_icmp .ne 20, 3) := by decide +kernel
theorem d_Model_entry_87 : decode b_Model_entry 87 = .ok (.iload_n 3, 1) := by decide +kernel
theorem d_Model_entry_88 : decode b_Model_entry 88 = .ok (.ifCond .le 7, 3) := by decide +kernel
theorem d_Model_entry_91 : decode b_Model_entry 91 = .ok (.iconst 0, 1) := by decide +kernel
theorem d_Model_entry_92 : decode b_Model_entry 92 = .ok (.goto 56, 3) := by decide +kernel
theorem d_Model_entry_95 : decode b_Model_entry 95 = .ok (.aload_n 0, 1) := by decide +kernel
theorem d_Model_entry_96 : decode b_Model_entry 96 = .ok (.getfield 13, 3) := by decide +kernel
theorem d_Model_entry_99 : decode b_Model_entry 99 = .ok (.iload_n 1, 1) := by decide +kernel
theorem d_Model_entry_100 : decode b_Model_entry 100 = .ok (.iaload, 1) := by decide +kernel
theorem d_Model_entry_101 : decode b_Model_entry 101 = .ok (.goto 47, 3) := by decide +kernel
theorem d_Model_entry_104 : decode b_Model_entry 104 = .ok (.aload_n 0, 1) := by decide +kernel
theorem d_Model_entry_105 : decode b_Model_entry 105 = .ok (.getfield 7, 3) := by decide +kernel
theorem d_Model_entry_108 : decode b_Model_entry 108 = .ok (.iload_n 1, 1) := by decide +kernel
theorem d_Model_entry_109 : decode b_Model_entry 109 = .ok (.iaload, 1) := by decide +kernel
theorem d_Model_entry_110 : decode b_Model_entry 110 = .ok (.iconst 3, 1) := by decide +kernel
theorem d_Model_entry_111 : decode b_Model_entry 111 = .ok (.if_icmp .ne 16, 3) := by decide +kernel
theorem d_Model_entry_114 : decode b_Model_entry 114 = .ok (.iload 4, 2) := by decide +kernel
theorem d_Model_entry_116 : decode b_Model_entry 116 = .ok (.ifCond .eq 7, 3) := by decide +kernel
theorem d_Model_entry_119 : decode b_Model_entry 119 = .ok (.iconst 1, 1) := by decide +kernel
theorem d_Model_entry_120 : decode b_Model_entry 120 = .ok (.goto 28, 3) := by decide +kernel
theorem d_Model_entry_123 : decode b_Model_entry 123 = .ok (.iconst 0, 1) := by decide +kernel
theorem d_Model_entry_124 : decode b_Model_entry 124 = .ok (.goto 24, 3) := by decide +kernel
theorem d_Model_entry_127 : decode b_Model_entry 127 = .ok (.aload_n 0, 1) := by decide +kernel
theorem d_Model_entry_128 : decode b_Model_entry 128 = .ok (.getfield 7, 3) := by decide +kernel
theorem d_Model_entry_131 : decode b_Model_entry 131 = .ok (.iload_n 1, 1) := by decide +kernel
theorem d_Model_entry_132 : decode b_Model_entry 132 = .ok (.iaload, 1) := by decide +kernel
theorem d_Model_entry_133 : decode b_Model_entry 133 = .ok (.iconst 4, 1) := by decide +kernel
theorem d_Model_entry_134 : decode b_Model_entry 134 = .ok (.if_icmp .ne 7, 3) := by decide +kernel
theorem d_Model_entry_137 : decode b_Model_entry 137 = .ok (.iconst 0, 1) := by decide +kernel
theorem d_Model_entry_138 : decode b_Model_entry 138 = .ok (.goto 10, 3) := by decide +kernel
theorem d_Model_entry_141 : decode b_Model_entry 141 = .ok (.aload_n 0, 1) := by decide +kernel
theorem d_Model_entry_142 : decode b_Model_entry 142 = .ok (.getfield 20, 3) := by decide +kernel
theorem d_Model_entry_145 : decode b_Model_entry 145 = .ok (.iload_n 1, 1) := by decide +kernel
theorem d_Model_entry_146 : decode b_Model_entry 146 = .ok (.laload, 1) := by decide +kernel
theorem d_Model_entry_147 : decode b_Model_entry 147 = .ok (.l2i, 1) := by decide +kernel
theorem d_Model_entry_148 : decode b_Model_entry 148 = .ok (.istore 5, 2) := by decide +kernel
theorem d_Model_entry_150 : decode b_Model_entry 150 = .ok (.aload_n 0, 1) := by decide +kernel
theorem d_Model_entry_151 : decode b_Model_entry 151 = .ok (.aload_n 0, 1) := by decide +kernel
theorem d_Model_entry_152 : decode b_Model_entry 152 = .ok (.getfield 7, 3) := by decide +kernel
theorem d_Model_entry_155 : decode b_Model_entry 155 = .ok (.iload_n 1, 1) := by decide +kernel
theorem d_Model_entry_156 : decode b_Model_entry 156 = .ok (.iaload, 1) := by decide +kernel
theorem d_Model_entry_157 : decode b_Model_entry 157 = .ok (.iload_n 2, 1) := by decide +kernel
theorem d_Model_entry_158 : decode b_Model_entry 158 = .ok (.ifCond .eq 8, 3) := by decide +kernel
theorem d_Model_entry_161 : decode b_Model_entry 161 = .ok (.bipush 8, 2) := by decide +kernel
theorem d_Model_entry_163 : decode b_Model_entry 163 = .ok (.goto 4, 3) := by decide +kernel
theorem d_Model_entry_166 : decode b_Model_entry 166 = .ok (.iconst 0, 1) := by decide +kernel
theorem d_Model_entry_167 : decode b_Model_entry 167 = .ok (.ior, 1) := by decide +kernel
theorem d_Model_entry_168 : decode b_Model_entry 168 = .ok (.iload 5, 2) := by decide +kernel
theorem d_Model_entry_170 : decode b_Model_entry 170 = .ok (.iconst 4, 1) := by decide +kernel
theorem d_Model_entry_171 : decode b_Model_entry 171 = .ok (.ishl, 1) := by decide +kernel
theorem d_Model_entry_172 : decode b_Model_entry 172 = .ok (.ior, 1) := by decide +kernel
theorem d_Model_entry_173 : decode b_Model_entry 173 = .ok (.invokevirtual 79, 3) := by decide +kernel
theorem d_Model_entry_176 : decode b_Model_entry 176 = .ok (.iload_n 2, 1) := by decide +kernel
theorem d_Model_entry_177 : decode b_Model_entry 177 = .ok (.ifCond .ne 13, 3) := by decide +kernel
theorem d_Model_entry_180 : decode b_Model_entry 180 = .ok (.aload_n 0, 1) := by decide +kernel
theorem d_Model_entry_181 : decode b_Model_entry 181 = .ok (.aload_n 0, 1) := by decide +kernel
theorem d_Model_entry_182 : decode b_Model_entry 182 = .ok (.getfield 16, 3) := by decide +kernel
theorem d_Model_entry_185 : decode b_Model_entry 185 = .ok (.iload_n 1, 1) := by decide +kernel
theorem d_Model_entry_186 : decode b_Model_entry 186 = .ok (.laload, 1) := by decide +kernel
theorem d_Model_entry_187 : decode b_Model_entry 187 = .ok (.invokevirtual 90, 3) := by decide +kernel
theorem d_Model_entry_190 : decode b_Model_entry 190 = .ok (.aload_n 0, 1) := by decide +kernel
theorem d_Model_entry_191 : decode b_Model_entry 191 = .ok (.dup, 1) := by decide +kernel
theorem d_Model_entry_192 : decode b_Model_entry 192 = .ok (.getfield 102, 3) := by decide +kernel
theorem d_Model_entry_195 : decode b_Model_entry 195 = .ok (.iload_n 2, 1) := by decide +kernel
theorem d_Model_entry_196 : decode b_Model_entry 196 = .ok (.ifCond .eq 7, 3) := by decide +kernel
theorem d_Model_entry_199 : decode b_Model_entry 199 = .ok (.iconst 1, 1) := by decide +kernel
theorem d_Model_entry_200 : decode b_Model_entry 200 = .ok (.goto 4, 3) := by decide +kernel
theorem d_Model_entry_203 : decode b_Model_entry 203 = .ok (.iconst 0, 1) := by decide +kernel
theorem d_Model_entry_204 : decode b_Model_entry 204 = .ok (.iadd, 1) := by decide +kernel
theorem d_Model_entry_205 : decode b_Model_entry 205 = .ok (.putfield 102, 3) := by decide +kernel
theorem d_Model_entry_208 : decode b_Model_entry 208 = .ok (.aload_n 0, 1) := by decide +kernel
theorem d_Model_entry_209 : decode b_Model_entry 209 = .ok (.dup, 1) := by decide +kernel
theorem d_Model_entry_210 : decode b_Model_entry 210 = .ok (.getfield 105, 3) := by decide +kernel
theorem d_Model_entry_213 : decode b_Model_entry 213 = .ok (.iload_n 3, 1) := by decide +kernel
theorem d_Model_entry_214 : decode b_Model_entry 214 = .ok (.ifCond .le 7, 3) := by decide +kernel
theorem d_Model_entry_217 : decode b_Model_entry 217 = .ok (.iconst 1, 1) := by decide +kernel
theorem d_Model_entry_218 : decode b_Model_entry 218 = .ok (.goto 4, 3) := by decide +kernel
theorem d_Model_entry_221 : decode b_Model_entry 221 = .ok (.iconst 0, 1) := by decide +kernel
theorem d_Model_entry_222 : decode b_Model_entry 222 = .ok (.iadd, 1) := by decide +kernel
theorem d_Model_entry_223 : decode b_Model_entry 223 = .ok (.putfield 105, 3) := by decide +kernel
theorem d_Model_entry_226 : decode b_Model_entry 226 = .ok (.iload_n 3, 1) := by decide +kernel
theorem d_Model_entry_227 : decode b_Model_entry 227 = .ok (.ifCond .le 9, 3) := by decide +kernel
theorem d_Model_entry_230 : decode b_Model_entry 230 = .ok (.aload_n 0, 1) := by decide +kernel
theorem d_Model_entry_231 : decode b_Model_entry 231 = .ok (.iload_n 3, 1) := by decide +kernel
theorem d_Model_entry_232 : decode b_Model_entry 232 = .ok (.i2l, 1) := by decide +kernel
theorem d_Model_entry_233 : decode b_Model_entry 233 = .ok (.invokevirtual 90, 3) := by decide +kernel
theorem d_Model_entry_236 : decode b_Model_entry 236 = .ok (.aload_n 0, 1) := by decide +kernel
theorem d_Model_entry_237 : decode b_Model_entry 237 = .ok (.getfield 7, 3) := by decide +kernel
theorem d_Model_entry_240 : decode b_Model_entry 240 = .ok (.iload_n 1, 1) := by decide +kernel
theorem d_Model_entry_241 : decode b_Model_entry 241 = .ok (.iaload, 1) := by decide +kernel
theorem d_Model_entry_242 : decode b_Model_entry 242 = .ok (.iconst 2, 1) := by decide +kernel
theorem d_Model_entry_243 : decode b_Model_entry 243 = .ok (.if_icmp .ne 13, 3) := by decide +kernel
theorem d_Model_entry_246 : decode b_Model_entry 246 = .ok (.aload_n 0, 1) := by decide +kernel
theorem d_Model_entry_247 : decode b_Model_entry 247 = .ok (.aload_n 0, 1) := by decide +kernel
theorem d_Model_entry_248 : decode b_Model_entry 248 = .ok (.getfield 13, 3) := by decide +kernel
theorem d_Model_entry_251 : decode b_Model_entry 251 = .ok (.iload_n 1, 1) := by decide +kernel
theorem d_Model_entry_252 : decode b_Model_entry 252 = .ok (.iaload, 1) := by decide +kernel
theorem d_Model_entry_253 : decode b_Model_entry 253 = .ok (.invokevirtual 79, 3) := by decide +kernel
theorem d_Model_entry_256 : decode b_Model_entry 256 = .ok (.aload_n 0, 1) := by decide +kernel
theorem d_Model_entry_257 : decode b_Model_entry 257 = .ok (.getfield 7, 3) := by decide +kernel
theorem d_Model_entry_260 : decode b_Model_entry 260 = .ok (.iload_n 1, 1) := by decide +kernel
theorem d_Model_entry_261 : decode b_Model_entry 261 = .ok (.iaload, 1) := by decide +kernel
theorem d_Model_entry_262 : decode b_Model_entry 262 = .ok (.iconst 3, 1) := by decide +kernel
theorem d_Model_entry_263 : decode b_Model_entry 263 = .ok (.if_icmp .ne 18, 3) := by decide +kernel
theorem d_Model_entry_266 : decode b_Model_entry 266 = .ok (.iload 4, 2) := by decide +kernel
theorem d_Model_entry_268 : decode b_Model_entry 268 = .ok (.ifCond .ne 13, 3) := by decide +kernel
theorem d_Model_entry_271 : decode b_Model_entry 271 = .ok (.aload_n 0, 1) := by decide +kernel
theorem d_Model_entry_272 : decode b_Model_entry 272 = .ok (.aload_n 0, 1) := by decide +kernel
theorem d_Model_entry_273 : decode b_Model_entry 273 = .ok (.getfield 20, 3) := by decide +kernel
theorem d_Model_entry_276 : decode b_Model_entry 276 = .ok (.iload_n 1, 1) := by decide +kernel
theorem d_Model_entry_277 : decode b_Model_entry 277 = .ok (.laload, 1) := by decide +kernel
theorem d_Model_entry_278 : decode b_Model_entry 278 = .ok (.invokevirtual 90, 3) := by decide +kernel
theorem d_Model_entry_281 : decode b_Model_entry 281 = .ok (.aload_n 0, 1) := by decide +kernel
theorem d_Model_entry_282 : decode b_Model_entry 282 = .ok (.getfield 7, 3) := by decide +kernel
theorem d_Model_entry_285 : decode b_Model_entry 285 = .ok (.iload_n 1, 1) := by decide +kernel
theorem d_Model_entry_286 : decode b_Model_entry 286 = .ok (.iaload, 1) := by decide +kernel
theorem d_Model_entry_287 : decode b_Model_entry 287 = .ok (.iconst 4, 1) := by decide +kernel
theorem d_Model_entry_288 : decode b_Model_entry 288 = .ok (.if_icmp .ne 7, 3) := by decide +kernel
theorem d_Model_entry_291 : decode b_Model_entry 291 = .ok (.iconst 4, 1) := by decide +kernel
theorem d_Model_entry_292 : decode b_Model_entry 292 = .ok (.goto 27, 3) := by decide +kernel
theorem d_Model_entry_295 : decode b_Model_entry 295 = .ok (.aload_n 0, 1) := by decide +kernel
theorem d_Model_entry_296 : decode b_Model_entry 296 = .ok (.getfield 7, 3) := by decide +kernel
theorem d_Model_entry_299 : decode b_Model_entry 299 = .ok (.iload_n 1, 1) := by decide +kernel
theorem d_Model_entry_300 : decode b_Model_entry 300 = .ok (.iaload, 1) := by decide +kernel
theorem d_Model_entry_301 : decode b_Model_entry 301 = .ok (.iconst 1, 1) := by decide +kernel
theorem d_Model_entry_302 : decode b_Model_entry 302 = .ok (.if_icmp .ne 16, 3) := by decide +kernel
theorem d_Model_entry_305 : decode b_Model_entry 305 = .ok (.iload_n 3, 1) := by decide +kernel
theorem d_Model_entry_306 : decode b_Model_entry 306 = .ok (.ifCond .ne 12, 3) := by decide +kernel
theorem d_Model_entry_309 : decode b_Model_entry 309 = .ok (.aload_n 0, 1) := by decide +kernel
theorem d_Model_entry_310 : decode b_Model_entry 310 = .ok (.getfield 13, 3) := by decide +kernel
theorem d_Model_entry_313 : decode b_Model_entry 313 = .ok (.iload_n 1, 1) := by decide +kernel
theorem d_Model_entry_314 : decode b_Model_entry 314 = .ok (.iaload, 1) := by decide +kernel
theorem d_Model_entry_315 : decode b_Model_entry 315 = .ok (.goto 4, 3) := by decide +kernel
theorem d_Model_entry_318 : decode b_Model_entry 318 = .ok (.iconst 0, 1) := by decide +kernel
theorem d_Model_entry_319 : decode b_Model_entry 319 = .ok (.istore 6, 2) := by decide +kernel
theorem d_Model_entry_321 : decode b_Model_entry 321 = .ok (.iload 6, 2) := by decide +kernel
theorem d_Model_entry_323 : decode b_Model_entry 323 = .ok (.iconst 1, 1) := by decide +kernel
theorem d_Model_entry_324 : decode b_Model_entry 324 = .ok (.isub, 1) := by decide +kernel
theorem d_Model_entry_325 : decode b_Model_entry 325 = .ok (.istore 7, 2) := by decide +kernel
theorem d_Model_entry_327 : decode b_Model_entry 327 = .ok (.iload 7, 2) := by decide +kernel
theorem d_Model_entry_329 : decode b_Model_entry 329 = .ok (.ifCond .lt 26, 3) := by decide +kernel
theorem d_Model_entry_332 : decode b_Model_entry 332 = .ok (.aload_n 0, 1) := by decide +kernel
theorem d_Model_entry_333 : decode b_Model_entry 333 = .ok (.aload_n 0, 1) := by decide +kernel
theorem d_Model_entry_334 : decode b_Model_entry 334 = .ok (.getfield 20, 3) := by decide +kernel
theorem d_Model_entry_337 : decode b_Model_entry 337 = .ok (.iload_n 1, 1) := by decide +kernel
theorem d_Model_entry_338 : decode b_Model_entry 338 = .ok (.laload, 1) := by decide +kernel
theorem d_Model_entry_339 : decode b_Model_entry 339 = .ok (.bipush 8, 2) := by decide +kernel
theorem d_Model_entry_341 : decode b_Model_entry 341 = .ok (.iload 7, 2) := by decide +kernel
theorem d_Model_entry_343 : decode b_Model_entry 343 = .ok (.imul, 1) := by decide +kernel
theorem d_Model_entry_344 : decode b_Model_entry 344 = .ok (.lshr, 1) := by decide +kernel
theorem d_Model_entry_345 : decode b_Model_entry 345 = .ok (.l2i, 1) := by decide +kernel
theorem d_Model_entry_346 : decode b_Model_entry 346 = .ok (.invokevirtual 79, 3) := by decide +kernel
theorem d_Model_entry_349 : decode b_Model_entry 349 = .ok (.iinc 7 (-1), 3) := by decide +kernel
theorem d_Model_entry_352 : decode b_Model_entry 352 = .ok (.goto (-25), 3) := by decide +kernel
theorem d_Model_entry_355 : decode b_Model_entry 355 = .ok (.return_, 1) := by decide +kernel
theorem d_Model_makeUp_0 : decode b_Model_makeUp 0 = .ok (.aload_n 0, 1) := by decide +kernel
theorem d_Model_makeUp_1 : decode b_Model_makeUp 1 = .ok (.aload_n 0, 1) := by decide +kernel
theorem d_Model_makeUp_2 : decode b_Model_makeUp 2 = .ok (.aload_n 0, 1) := by decide +kernel
theorem d_Model_makeUp_3 : decode b_Model_makeUp 3 = .ok (.aload_n 0, 1) := by decide +kernel
theorem d_Model_makeUp_4 : decode b_Model_makeUp 4 = .ok (.aload_n 0, 1) := by decide +kernel
theorem d_Model_makeUp_5 : decode b_Model_makeUp 5 = .ok (.iconst 0, 1) := by decide +kernel
theorem d_Model_makeUp_6 : decode b_Model_makeUp 6 = .ok (.dup_x1, 1) := by decide +kernel
theorem d_Model_makeUp_7 : decode b_Model_makeUp 7 = .ok (.putfield 105, 3) := by decide +kernel
theorem d_Model_makeUp_10 : decode b_Model_makeUp 10 = .ok (.dup_x1, 1) := by decide +kernel
theorem d_Model_makeUp_11 : decode b_Model_makeUp 11 = .ok (.putfield 102, 3) := by decide +kernel
theorem d_Model_makeUp_14 : decode b_Model_makeUp 14 = .ok (.dup_x1, 1) := by decide +kernel
theorem d_Model_makeUp_15 : decode b_Model_makeUp 15 = .ok (.putfield 87, 3) := by decide +kernel
theorem d_Model_makeUp_18 : decode b_Model_makeUp 18 = .ok (.dup_x1, 1) := by decide +kernel
theorem d_Model_makeUp_19 : decode b_Model_makeUp 19 = .ok (.putfield 108, 3) := by decide +kernel
theorem d_Model_makeUp_22 : decode b_Model_makeUp 22 = .ok (.putfield 74, 3) := by decide +kernel
theorem d_Model_makeUp_25 : decode b_Model_makeUp 25 = .ok (.aload_n 0, 1) := by decide +kernel
theorem d_Model_makeUp_26 : decode b_Model_makeUp 26 = .ok (.aload_n 0, 1) := by decide +kernel
theorem d_Model_makeUp_27 : decode b_Model_makeUp 27 = .ok (.getfield 63, 3) := by decide +kernel
theorem d_Model_makeUp_30 : decode b_Model_makeUp 30 = .ok (.i2l, 1) := by decide +kernel
theorem d_Model_makeUp_31 : decode b_Model_makeUp 31 = .ok (.invokevirtual 90, 3) := by decide +kernel
theorem d_Model_makeUp_34 : decode b_Model_makeUp 34 = .ok (.iconst 0, 1) := by decide +kernel
theorem d_Model_makeUp_35 : decode b_Model_makeUp 35 = .ok (.istore_n 1, 1) := by decide +kernel
theorem d_Model_makeUp_36 : decode b_Model_makeUp 36 = .ok (.iconst 0, 1) := by decide +kernel
theorem d_Model_makeUp_37 : decode b_Model_makeUp 37 = .ok (.istore_n 2, 1) := by decide +kernel
theorem d_Model_makeUp_38 : decode b_Model_makeUp 38 = .ok (.iload_n 2, 1) := by decide +kernel
theorem d_Model_makeUp_39 : decode b_Model_makeUp 39 = .ok (.aload_n 0, 1) := by decide +kernel
theorem d_Model_makeUp_40 : decode b_Model_makeUp 40 = .ok (.getfield 63, 3) := by decide +kernel
theorem d_Model_makeUp_43 : decode b_Model_makeUp 43 = .ok (.if_icmp .ge 89, 3) := by decide +kernel
theorem d_Model_makeUp_46 : decode b_Model_makeUp 46 = .ok (.aload_n 0, 1) := by decide +kernel
theorem d_Model_makeUp_47 : decode b_Model_makeUp 47 = .ok (.iload_n 2, 1) := by decide +kernel
theorem d_Model_makeUp_48 : decode b_Model_makeUp 48 = .ok (.invokevirtual 111, 3) := by decide +kernel
theorem d_Model_makeUp_51 : decode b_Model_makeUp 51 = .ok (.ifCond .eq 9, 3) := by decide +kernel
theorem d_Model_makeUp_54 : decode b_Model_makeUp 54 = .ok (.iload_n 1, 1) := by decide +kernel
theorem d_Model_makeUp_55 : decode b_Model_makeUp 55 = .ok (.iconst 1, 1) := by decide +kernel
theorem d_Model_makeUp_56 : decode b_Model_makeUp 56 = .ok (.iadd, 1) := by decide +kernel
theorem d_Model_makeUp_57 : decode b_Model_makeUp 57 = .ok (.goto 4, 3) := by decide +kernel
theorem d_Model_makeUp_60 : decode b_Model_makeUp 60 = .ok (.iconst 0, 1) := by decide +kernel
theorem d_Model_makeUp_61 : decode b_Model_makeUp 61 = .ok (.istore_n 1, 1) := by decide +kernel
theorem d_Model_makeUp_62 : decode b_Model_makeUp 62 = .ok (.iload_n 2, 1) := by decide +kernel
theorem d_Model_makeUp_63 : decode b_Model_makeUp 63 = .ok (.iconst 1, 1) := by decide +kernel
theorem d_Model_makeUp_64 : decode b_Model_makeUp 64 = .ok (.iadd, 1) := by decide +kernel
theorem d_Model_makeUp_65 : decode b_Model_makeUp 65 = .ok (.aload_n 0, 1) := by decide +kernel
theorem d_Model_makeUp_66 : decode b_Model_makeUp 66 = .ok (.getfield 63, 3) := by decide +kernel
theorem d_Model_makeUp_69 : decode b_Model_makeUp 69 = .ok (.if_icmp .eq 13, 3) := by decide +kernel
theorem d_Model_makeUp_72 : decode b_Model_makeUp 72 = .ok (.aload_n 0, 1) := by decide +kernel
theorem d_Model_makeUp_73 : decode b_Model_makeUp 73 = .ok (.iload_n 2, 1) := by decide +kernel
theorem d_Model_makeUp_74 : decode b_Model_makeUp 74 = .ok (.iconst 1, 1) := by decide +kernel
theorem d_Model_makeUp_75 : decode b_Model_makeUp 75 = .ok (.iadd, 1) := by decide +kernel
theorem d_Model_makeUp_76 : decode b_Model_makeUp 76 = .ok (.invokevirtual 111, 3) := by decide +kernel
theorem d_Model_makeUp_79 : decode b_Model_makeUp 79 = .ok (.ifCond .ne 7, 3) := by decide +kernel
theorem d_Model_makeUp_82 : decode b_Model_makeUp 82 = .ok (.iconst 1, 1) := by decide +kernel
theorem d_Model_makeUp_83 : decode b_Model_makeUp 83 = .ok (.goto 4, 3) := by decide +kernel
theorem d_Model_makeUp_86 : decode b_Model_makeUp 86 = .ok (.iconst 0, 1) := by decide +kernel
theorem d_Model_makeUp_87 : decode b_Model_makeUp 87 = .ok (.istore_n 3, 1) := by decide +kernel
theorem d_Model_makeUp_88 : decode b_Model_makeUp 88 = .ok (.iload_n 1, 1) := by decide +kernel
theorem d_Model_makeUp_89 : decode b_Model_makeUp 89 = .ok (.ifCond .le 10, 3) := by decide +kernel
theorem d_Model_makeUp_92 : decode b_Model_makeUp 92 = .ok (.iload_n 3, 1) := by decide +kernel
theorem d_Model_makeUp_93 : decode b_Model_makeUp 93 = .ok (.ifCond .ne 6, 3) := by decide +kernel
theorem d_Model_makeUp_96 : decode b_Model_makeUp 96 = .ok (.goto 30, 3) := by decide +kernel
theorem d_Model_makeUp_99 : decode b_Model_makeUp 99 = .ok (.aload_n 0, 1) := by decide +kernel
theorem d_Model_makeUp_100 : decode b_Model_makeUp 100 = .ok (.dup, 1) := by decide +kernel
theorem d_Model_makeUp_101 : decode b_Model_makeUp 101 = .ok (.getfield 108, 3) := by decide +kernel
theorem d_Model_makeUp_104 : decode b_Model_makeUp 104 = .ok (.iconst 1, 1) := by decide +kernel
theorem d_Model_makeUp_105 : decode b_Model_makeUp 105 = .ok (.iadd, 1) := by decide +kernel
theorem d_Model_makeUp_106 : decode b_Model_makeUp 106 = .ok (.putfield 108, 3) := by decide +kernel
theorem d_Model_makeUp_109 : decode b_Model_makeUp 109 = .ok (.iload_n 1, 1) := by decide +kernel
theorem d_Model_makeUp_110 : decode b_Model_makeUp 110 = .ok (.ifCond .le 11, 3) := by decide +kernel
theorem d_Model_makeUp_113 : decode b_Model_makeUp 113 = .ok (.aload_n 0, 1) := by decide +kernel
theorem d_Model_makeUp_114 : decode b_Model_makeUp 114 = .ok (.iload_n 1, 1) := by decide +kernel
theorem d_Model_makeUp_115 : decode b_Model_makeUp 115 = .ok (.invokevirtual 114, 3) := by decide +kernel
theorem d_Model_makeUp_118 : decode b_Model_makeUp 118 = .ok (.goto 8, 3) := by decide +kernel
theorem d_Model_makeUp_121 : decode b_Model_makeUp 121 = .ok (.aload_n 0, 1) := by decide +kernel
theorem d_Model_makeUp_122 : decode b_Model_makeUp 122 = .ok (.iload_n 2, 1) := by decide +kernel
theorem d_Model_makeUp_123 : decode b_Model_makeUp 123 = .ok (.invokevirtual 117, 3) := by decide +kernel
theorem d_Model_makeUp_126 : decode b_Model_makeUp 126 = .ok (.iinc 2 1, 3) := by decide +kernel
theorem d_Model_makeUp_129 : decode b_Model_makeUp 129 = .ok (.goto (-91), 3) := by decide +kernel
theorem d_Model_makeUp_132 : decode b_Model_makeUp 132 = .ok (.return_, 1) := by decide +kernel
theorem d_Model_pack_0 : decode b_Model_pack 0 = .ok (.aload_n 0, 1) := by decide +kernel
theorem d_Model_pack_1 : decode b_Model_pack 1 = .ok (.iconst 0, 1) := by decide +kernel
theorem d_Model_pack_2 : decode b_Model_pack 2 = .ok (.putfield 41, 3) := by decide +kernel
theorem d_Model_pack_5 : decode b_Model_pack 5 = .ok (.aload_n 0, 1) := by decide +kernel
theorem d_Model_pack_6 : decode b_Model_pack 6 = .ok (.invokevirtual 120, 3) := by decide +kernel
theorem d_Model_pack_9 : decode b_Model_pack 9 = .ok (.aload_n 0, 1) := by decide +kernel
theorem d_Model_pack_10 : decode b_Model_pack 10 = .ok (.aload_n 0, 1) := by decide +kernel
theorem d_Model_pack_11 : decode b_Model_pack 11 = .ok (.getfield 74, 3) := by decide +kernel
theorem d_Model_pack_14 : decode b_Model_pack 14 = .ok (.putfield 123, 3) := by decide +kernel
theorem d_Model_pack_17 : decode b_Model_pack 17 = .ok (.iconst 0, 1) := by decide +kernel
theorem d_Model_pack_18 : decode b_Model_pack 18 = .ok (.istore_n 1, 1) := by decide +kernel
theorem d_Model_pack_19 : decode b_Model_pack 19 = .ok (.iload_n 1, 1) := by decide +kernel
theorem d_Model_pack_20 : decode b_Model_pack 20 = .ok (.aload_n 0, 1) := by decide +kernel
theorem d_Model_pack_21 : decode b_Model_pack 21 = .ok (.getfield 74, 3) := by decide +kernel
theorem d_Model_pack_24 : decode b_Model_pack 24 = .ok (.if_icmp .ge 21, 3) := by decide +kernel
theorem d_Model_pack_27 : decode b_Model_pack 27 = .ok (.aload_n 0, 1) := by decide +kernel
theorem d_Model_pack_28 : decode b_Model_pack 28 = .ok (.getfield 35, 3) := by decide +kernel
theorem d_Model_pack_31 : decode b_Model_pack 31 = .ok (.iload_n 1, 1) := by decide +kernel
theorem d_Model_pack_32 : decode b_Model_pack 32 = .ok (.aload_n 0, 1) := by decide +kernel
theorem d_Model_pack_33 : decode b_Model_pack 33 = .ok (.getfield 38, 3) := by decide +kernel
theorem d_Model_pack_36 : decode b_Model_pack 36 = .ok (.iload_n 1, 1) := by decide +kernel
theorem d_Model_pack_37 : decode b_Model_pack 37 = .ok (.iaload, 1) := by decide +kernel
theorem d_Model_pack_38 : decode b_Model_pack 38 = .ok (.iastore, 1) := by decide +kernel
theorem d_Model_pack_39 : decode b_Model_pack 39 = .ok (.iinc 1 1, 3) := by decide +kernel
theorem d_Model_pack_42 : decode b_Model_pack 42 = .ok (.goto (-23), 3) := by decide +kernel
theorem d_Model_pack_45 : decode b_Model_pack 45 = .ok (.aload_n 0, 1) := by decide +kernel
theorem d_Model_pack_46 : decode b_Model_pack 46 = .ok (.getfield 123, 3) := by decide +kernel
theorem d_Model_pack_49 : decode b_Model_pack 49 = .ok (.ireturn, 1) := by decide +kernel
theorem d_Model_size_0 : decode b_Model_size 0 = .ok (.aload_n 0, 1) := by decide +kernel
theorem d_Model_size_1 : decode b_Model_size 1 = .ok (.iconst 0, 1) := by decide +kernel
theorem d_Model_size_2 : decode b_Model_size 2 = .ok (.putfield 41, 3) := by decide +kernel
theorem d_Model_size_5 : decode b_Model_size 5 = .ok (.aload_n 0, 1) := by decide +kernel
theorem d_Model_size_6 : decode b_Model_size 6 = .ok (.invokevirtual 120, 3) := by decide +kernel
theorem d_Model_size_9 : decode b_Model_size 9 = .ok (.aload_n 0, 1) := by decide +kernel
theorem d_Model_size_10 : decode b_Model_size 10 = .ok (.getfield 74, 3) := by decide +kernel
theorem d_Model_size_13 : decode b_Model_size 13 = .ok (.ireturn, 1) := by decide +kernel
theorem d_Model_meet_0 : decode b_Model_meet 0 = .ok (.aload_n 0, 1) := by decide +kernel
theorem d_Model_meet_1 : decode b_Model_meet 1 = .ok (.getfield 126, 3) := by decide +kernel
theorem d_Model_meet_4 : decode b_Model_meet 4 = .ok (.ifCond .ne 13, 3) := by decide +kernel
theorem d_Model_meet_7 : decode b_Model_meet 7 = .ok (.aload_n 0, 1) := by decide +kernel
theorem d_Model_meet_8 : decode b_Model_meet 8 = .ok (.iload_n 1, 1) := by decide +kernel
theorem d_Model_meet_9 : decode b_Model_meet 9 = .ok (.bipush 8, 2) := by decide +kernel
theorem d_Model_meet_11 : decode b_Model_meet 11 = .ok (.iload_n 2, 1) := by decide +kernel
theorem d_Model_meet_12 : decode b_Model_meet 12 = .ok (.imul, 1) := by decide +kernel
theorem d_Model_meet_13 : decode b_Model_meet 13 = .ok (.iadd, 1) := by decide +kernel
theorem d_Model_meet_14 : decode b_Model_meet 14 = .ok (.putfield 126, 3) := by decide +kernel
theorem d_Model_meet_17 : decode b_Model_meet 17 = .ok (.return_, 1) := by decide +kernel
theorem d_Model_next_0 : decode b_Model_next 0 = .ok (.aload_n 0, 1) := by decide +kernel
theorem d_Model_next_1 : decode b_Model_next 1 = .ok (.getfield 129, 3) := by decide +kernel
theorem d_Model_next_4 : decode b_Model_next 4 = .ok (.aload_n 0, 1) := by decide +kernel
theorem d_Model_next_5 : decode b_Model_next 5 = .ok (.getfield 123, 3) := by decide +kernel
theorem d_Model_next_8 : decode b_Model_next 8 = .ok (.if_icmp .lt 12, 3) := by decide +kernel
theorem d_Model_next_11 : decode b_Model_next 11 = .ok (.aload_n 0, 1) := by decide +kernel
theorem d_Model_next_12 : decode b_Model_next 12 = .ok (.iconst 2, 1) := by decide +kernel
theorem d_Model_next_13 : decode b_Model_next 13 = .ok (.aload_n 0, 1) := by decide +kernel
theorem d_Model_next_14 : decode b_Model_next 14 = .ok (.getfield 123, 3) := by decide +kernel
theorem d_Model_next_17 : decode b_Model_next 17 = .ok (.invokevirtual 132, 3) := by decide +kernel
theorem d_Model_next_20 : decode b_Model_next 20 = .ok (.aload_n 0, 1) := by decide +kernel
theorem d_Model_next_21 : decode b_Model_next 21 = .ok (.dup, 1) := by decide +kernel
theorem d_Model_next_22 : decode b_Model_next 22 = .ok (.getfield 129, 3) := by decide +kernel
theorem d_Model_next_25 : decode b_Model_next 25 = .ok (.iconst 1, 1) := by decide +kernel
theorem d_Model_next_26 : decode b_Model_next 26 = .ok (.iadd, 1) := by decide +kernel
theorem d_Model_next_27 : decode b_Model_next 27 = .ok (.putfield 129, 3) := by decide +kernel
theorem d_Model_next_30 : decode b_Model_next 30 = .ok (.aload_n 0, 1) := by decide +kernel
theorem d_Model_next_31 : decode b_Model_next 31 = .ok (.getfield 126, 3) := by decide +kernel
theorem d_Model_next_34 : decode b_Model_next 34 = .ok (.ifCond .le 7, 3) := by decide +kernel
theorem d_Model_next_37 : decode b_Model_next 37 = .ok (.iconst 0, 1) := by decide +kernel
theorem d_Model_next_38 : decode b_Model_next 38 = .ok (.goto 14, 3) := by decide +kernel
theorem d_Model_next_41 : decode b_Model_next 41 = .ok (.aload_n 0, 1) := by decide +kernel
theorem d_Model_next_42 : decode b_Model_next 42 = .ok (.getfield 35, 3) := by decide +kernel
theorem d_Model_next_45 : decode b_Model_next 45 = .ok (.aload_n 0, 1) := by decide +kernel
theorem d_Model_next_46 : decode b_Model_next 46 = .ok (.getfield 129, 3) := by decide +kernel
theorem d_Model_next_49 : decode b_Model_next 49 = .ok (.iconst 1, 1) := by decide +kernel
theorem d_Model_next_50 : decode b_Model_next 50 = .ok (.isub, 1) := by decide +kernel
theorem d_Model_next_51 : decode b_Model_next 51 = .ok (.iaload, 1) := by decide +kernel
theorem d_Model_next_52 : decode b_Model_next 52 = .ok (.ireturn, 1) := by decide +kernel
theorem d_Model_readVarint_0 : decode b_Model_readVarint 0 = .ok (.lconst 0, 1) := by decide +kernel
theorem d_Model_readVarint_1 : decode b_Model_readVarint 1 = .ok (.lstore_n 1, 1) := by decide +kernel
theorem d_Model_readVarint_2 : decode b_Model_readVarint 2 = .ok (.iconst 0, 1) := by decide +kernel
theorem d_Model_readVarint_3 : decode b_Model_readVarint 3 = .ok (.istore_n 3, 1) := by decide +kernel
theorem d_Model_readVarint_4 : decode b_Model_readVarint 4 = .ok (.sipush 128, 3) := by decide +kernel
theorem d_Model_readVarint_7 : decode b_Model_readVarint 7 = .ok (.istore 4, 2) := by decide +kernel
theorem d_Model_readVarint_9 : decode b_Model_readVarint 9 = .ok (.iload 4, 2) := by decide +kernel
theorem d_Model_readVarint_11 : decode b_Model_readVarint 11 = .ok (.bipush 127, 2) := by decide +kernel
theorem d_Model_readVarint_13 : decode b_Model_readVarint 13 = .ok (.if_icmp .le 60, 3) := by decide +kernel
theorem d_Model_readVarint_16 : decode b_Model_readVarint 16 = .ok (.aload_n 0, 1) := by decide +kernel
theorem d_Model_readVarint_17 : decode b_Model_readVarint 17 = .ok (.getfield 126, 3) := by decide +kernel
theorem d_Model_readVarint_20 : decode b_Model_readVarint 20 = .ok (.ifCond .ne 53, 3) := by decide +kernel
theorem d_Model_readVarint_23 : decode b_Model_readVarint 23 = .ok (.aload_n 0, 1) := by decide +kernel
theorem d_Model_readVarint_24 : decode b_Model_readVarint 24 = .ok (.invokevirtual 136, 3) := by decide +kernel
theorem d_Model_readVarint_27 : decode b_Model_readVarint 27 = .ok (.istore 4, 2) := by decide +kernel
theorem d_Model_readVarint_29 : decode b_Model_readVarint 29 = .ok (.lload_n 1, 1) := by decide +kernel
theorem d_Model_readVarint_30 : decode b_Model_readVarint 30 = .ok (.iload 4, 2) := by decide +kernel
theorem d_Model_readVarint_32 : decode b_Model_readVarint 32 = .ok (.bipush 127, 2) := by decide +kernel
theorem d_Model_readVarint_34 : decode b_Model_readVarint 34 = .ok (.iand, 1) := by decide +kernel
theorem d_Model_readVarint_35 : decode b_Model_readVarint 35 = .ok (.i2l, 1) := by decide +kernel
theorem d_Model_readVarint_36 : decode b_Model_readVarint 36 = .ok (.bipush 7, 2) := by decide +kernel
theorem d_Model_readVarint_38 : decode b_Model_readVarint 38 = .ok (.iload_n 3, 1) := by decide +kernel
theorem d_Model_readVarint_39 : decode b_Model_readVarint 39 = .ok (.imul, 1) := by decide +kernel
theorem d_Model_readVarint_40 : decode b_Model_readVarint 40 = .ok (.lshl, 1) := by decide +kernel
theorem d_Model_readVarint_41 : decode b_Model_readVarint 41 = .ok (.lor, 1) := by decide +kernel
theorem d_Model_readVarint_42 : decode b_Model_readVarint 42 = .ok (.lstore_n 1, 1) := by decide +kernel
theorem d_Model_readVarint_43 : decode b_Model_readVarint 43 = .ok (.iinc 3 1, 3) := by decide +kernel
theorem d_Model_readVarint_46 : decode b_Model_readVarint 46 = .ok (.iload_n 3, 1) := by decide +kernel
theorem d_Model_readVarint_47 : decode b_Model_readVarint 47 = .ok (.bipush 7, 2) := by decide +kernel
theorem d_Model_readVarint_49 : decode b_Model_readVarint 49 = .ok (.if_icmp .ne (-40), 3) := by decide +kernel
theorem d_Model_readVarint_52 : decode b_Model_readVarint 52 = .ok (.iload 4, 2) := by decide +kernel
theorem d_Model_readVarint_54 : decode b_Model_readVarint 54 = .ok (.bipush 127, 2) := by decide +kernel
theorem d_Model_readVarint_56 : decode b_Model_readVarint 56 = .ok (.if_icmp .le (-47), 3) := by decide +kernel
theorem d_Model_readVarint_59 : decode b_Model_readVarint 59 = .ok (.aload_n 0, 1) := by decide +kernel
theorem d_Model_readVarint_60 : decode b_Model_readVarint 60 = .ok (.iconst 3, 1) := by decide +kernel
theorem d_Model_readVarint_61 : decode b_Model_readVarint 61 = .ok (.aload_n 0, 1) := by decide +kernel
theorem d_Model_readVarint_62 : decode b_Model_readVarint 62 = .ok (.getfield 129, 3) := by decide +kernel
theorem d_Model_readVarint_65 : decode b_Model_readVarint 65 = .ok (.iconst 1, 1) := by decide +kernel
theorem d_Model_readVarint_66 : decode b_Model_readVarint 66 = .ok (.isub, 1) := by decide +kernel
theorem d_Model_readVarint_67 : decode b_Model_readVarint 67 = .ok (.invokevirtual 132, 3) := by decide +kernel
theorem d_Model_readVarint_70 : decode b_Model_readVarint 70 = .ok (.goto (-61), 3) := by decide +kernel
theorem d_Model_readVarint_73 : decode b_Model_readVarint 73 = .ok (.iload_n 3, 1) := by decide +kernel
theorem d_Model_readVarint_74 : decode b_Model_readVarint 74 = .ok (.iconst 1, 1) := by decide +kernel
theorem d_Model_readVarint_75 : decode b_Model_readVarint 75 = .ok (.if_icmp .le 8, 3) := by decide +kernel
theorem d_Model_readVarint_78 : decode b_Model_readVarint 78 = .ok (.iload 4, 2) := by decide +kernel
theorem d_Model_readVarint_80 : decode b_Model_readVarint 80 = .ok (.ifCond .eq 11, 3) := by decide +kernel
theorem d_Model_readVarint_83 : decode b_Model_readVarint 83 = .ok (.lload_n 1, 1) := by decide +kernel
theorem d_Model_readVarint_84 : decode b_Model_readVarint 84 = .ok (.ldc2_w 51, 3) := by decide +kernel
theorem d_Model_readVarint_87 : decode b_Model_readVarint 87 = .ok (.lcmp, 1) := by decide +kernel
theorem d_Model_readVarint_88 : decode b_Model_readVarint 88 = .ok (.ifCond .le 14, 3) := by decide +kernel
theorem d_Model_readVarint_91 : decode b_Model_readVarint 91 = .ok (.aload_n 0, 1) := by decide +kernel
theorem d_Model_readVarint_92 : decode b_Model_readVarint 92 = .ok (.iconst 3, 1) := by decide +kernel
theorem d_Model_readVarint_93 : decode b_Model_readVarint 93 = .ok (.aload_n 0, 1) := by decide +kernel
theorem d_Model_readVarint_94 : decode b_Model_readVarint 94 = .ok (.getfield 129, 3) := by decide +kernel
theorem d_Model_readVarint_97 : decode b_Model_readVarint 97 = .ok (.iconst 1, 1) := by decide +kernel
theorem d_Model_readVarint_98 : decode b_Model_readVarint 98 = .ok (.isub, 1) := by decide +kernel
theorem d_Model_readVarint_99 : decode b_Model_readVarint 99 = .ok (.invokevirtual 132, 3) := by decide +kernel
theorem d_Model_readVarint_102 : decode b_Model_readVarint 102 = .ok (.lload_n 1, 1) := by decide +kernel
theorem d_Model_readVarint_103 : decode b_Model_readVarint 103 = .ok (.lreturn, 1) := by decide +kernel
theorem d_Model_take_0 : decode b_Model_take 0 = .ok (.aload_n 0, 1) := by decide +kernel
theorem d_Model_take_1 : decode b_Model_take 1 = .ok (.getfield 23, 3) := by decide +kernel
theorem d_Model_take_4 : decode b_Model_take 4 = .ok (.aload_n 0, 1) := by decide +kernel
theorem d_Model_take_5 : decode b_Model_take 5 = .ok (.getfield 140, 3) := by decide +kernel
theorem d_Model_take_8 : decode b_Model_take 8 = .ok (.iload_n 1, 1) := by decide +kernel
theorem d_Model_take_9 : decode b_Model_take 9 = .ok (.iastore, 1) := by decide +kernel
theorem d_Model_take_10 : decode b_Model_take 10 = .ok (.aload_n 0, 1) := by decide +kernel
theorem d_Model_take_11 : decode b_Model_take 11 = .ok (.getfield 29, 3) := by decide +kernel
theorem d_Model_take_14 : decode b_Model_take 14 = .ok (.aload_n 0, 1) := by decide +kernel
theorem d_Model_take_15 : decode b_Model_take 15 = .ok (.getfield 140, 3) := by decide +kernel
theorem d_Model_take_18 : decode b_Model_take 18 = .ok (.lload_n 2, 1) := by decide +kernel
theorem d_Model_take_19 : decode b_Model_take 19 = .ok (.lastore, 1) := by decide +kernel
theorem d_Model_take_20 : decode b_Model_take 20 = .ok (.aload_n 0, 1) := by decide +kernel
theorem d_Model_take_21 : decode b_Model_take 21 = .ok (.getfield 32, 3) := by decide +kernel
theorem d_Model_take_24 : decode b_Model_take 24 = .ok (.aload_n 0, 1) := by decide +kernel
theorem d_Model_take_25 : decode b_Model_take 25 = .ok (.getfield 140, 3) := by decide +kernel
theorem d_Model_take_28 : decode b_Model_take 28 = .ok (.lload 4, 2) := by decide +kernel
theorem d_Model_take_30 : decode b_Model_take 30 = .ok (.lastore, 1) := by decide +kernel
theorem d_Model_take_31 : decode b_Model_take 31 = .ok (.aload_n 0, 1) := by decide +kernel
theorem d_Model_take_32 : decode b_Model_take 32 = .ok (.getfield 26, 3) := by decide +kernel
theorem d_Model_take_35 : decode b_Model_take 35 = .ok (.aload_n 0, 1) := by decide +kernel
theorem d_Model_take_36 : decode b_Model_take 36 = .ok (.getfield 140, 3) := by decide +kernel
theorem d_Model_take_39 : decode b_Model_take 39 = .ok (.iload 6, 2) := by decide +kernel
theorem d_Model_take_41 : decode b_Model_take 41 = .ok (.iastore, 1) := by decide +kernel
theorem d_Model_take_42 : decode b_Model_take 42 = .ok (.aload_n 0, 1) := by decide +kernel
theorem d_Model_take_43 : decode b_Model_take 43 = .ok (.dup, 1) := by decide +kernel
theorem d_Model_take_44 : decode b_Model_take 44 = .ok (.getfield 140, 3) := by decide +kernel
theorem d_Model_take_47 : decode b_Model_take 47 = .ok (.iconst 1, 1) := by decide +kernel
theorem d_Model_take_48 : decode b_Model_take 48 = .ok (.iadd, 1) := by decide +kernel
theorem d_Model_take_49 : decode b_Model_take 49 = .ok (.putfield 140, 3) := by decide +kernel
theorem d_Model_take_52 : decode b_Model_take 52 = .ok (.return_, 1) := by decide +kernel
theorem d_Model_before_0 : decode b_Model_before 0 = .ok (.lload_n 2, 1) := by decide +kernel
theorem d_Model_before_1 : decode b_Model_before 1 = .ok (.lstore 4, 2) := by decide +kernel
theorem d_Model_before_3 : decode b_Model_before 3 = .ok (.aload_n 0, 1) := by decide +kernel
theorem d_Model_before_4 : decode b_Model_before 4 = .ok (.getfield 140, 3) := by decide +kernel
theorem d_Model_before_7 : decode b_Model_before 7 = .ok (.iconst 1, 1) := by decide +kernel
theorem d_Model_before_8 : decode b_Model_before 8 = .ok (.isub, 1) := by decide +kernel
theorem d_Model_before_9 : decode b_Model_before 9 = .ok (.istore 6, 2) := by decide +kernel
theorem d_Model_before_11 : decode b_Model_before 11 = .ok (.iload 6, 2) := by decide +kernel
theorem d_Model_before_13 : decode b_Model_before 13 = .ok (.ifCond .lt 52, 3) := by decide +kernel
theorem d_Model_before_16 : decode b_Model_before 16 = .ok (.aload_n 0, 1) := by decide +kernel
theorem d_Model_before_17 : decode b_Model_before 17 = .ok (.getfield 23, 3) := by decide +kernel
theorem d_Model_before_20 : decode b_Model_before 20 = .ok (.iload 6, 2) := by decide +kernel
theorem d_Model_before_22 : decode b_Model_before 22 = .ok (.iaload, 1) := by decide +kernel
theorem d_Model_before_23 : decode b_Model_before 23 = .ok (.iload_n 1, 1) := by decide +kernel
theorem d_Model_before_24 : decode b_Model_before 24 = .ok (.if_icmp .ne 10, 3) := by decide +kernel
theorem d_Model_before_27 : decode b_Model_before 27 = .ok (.lload 4, 2) := by decide +kernel
theorem d_Model_before_29 : decode b_Model_before 29 = .ok (.lconst 1, 1) := by decide +kernel
theorem d_Model_before_30 : decode b_Model_before 30 = .ok (.lsub, 1) := by decide +kernel
theorem d_Model_before_31 : decode b_Model_before 31 = .ok (.goto 5, 3) := by decide +kernel
theorem d_Model_before_34 : decode b_Model_before 34 = .ok (.lload 4, 2) := by decide +kernel
theorem d_Model_before_36 : decode b_Model_before 36 = .ok (.lstore 4, 2) := by decide +kernel
theorem d_Model_before_38 : decode b_Model_before 38 = .ok (.aload_n 0, 1) := by decide +kernel
theorem d_Model_before_39 : decode b_Model_before 39 = .ok (.getfield 23, 3) := by decide +kernel
theorem d_Model_before_42 : decode b_Model_before 42 = .ok (.iload 6, 2) := by decide +kernel
theorem d_Model_before_44 : decode b_Model_before 44 = .ok (.iaload, 1) := by decide +kernel
theorem d_Model_before_45 : decode b_Model_before 45 = .ok (.iload_n 1, 1) := by decide +kernel
theorem d_Model_before_46 : decode b_Model_before 46 = .ok (.if_icmp .ne 13, 3) := by decide +kernel
theorem d_Model_before_49 : decode b_Model_before 49 = .ok (.lload 4, 2) := by decide +kernel
theorem d_Model_before_51 : decode b_Model_before 51 = .ok (.lconst 0, 1) := by decide +kernel
theorem d_Model_before_52 : decode b_Model_before 52 = .ok (.lcmp, 1) := by decide +kernel
theorem d_Model_before_53 : decode b_Model_before 53 = .ok (.ifCond .ne 6, 3) := by decide +kernel
theorem d_Model_before_56 : decode b_Model_before 56 = .ok (.iload 6, 2) := by decide +kernel
theorem d_Model_before_58 : decode b_Model_before 58 = .ok (.ireturn, 1) := by decide +kernel
theorem d_Model_before_59 : decode b_Model_before 59 = .ok (.iinc 6 (-1), 3) := by decide +kernel
theorem d_Model_before_62 : decode b_Model_before 62 = .ok (.goto (-51), 3) := by decide +kernel
theorem d_Model_before_65 : decode b_Model_before 65 = .ok (.iconst (-1), 1) := by decide +kernel
theorem d_Model_before_66 : decode b_Model_before 66 = .ok (.ireturn, 1) := by decide +kernel
theorem d_Model_readCount_0 : decode b_Model_readCount 0 = .ok (.aload_n 0, 1) := by decide +kernel
theorem d_Model_readCount_1 : decode b_Model_readCount 1 = .ok (.getfield 129, 3) := by decide +kernel
theorem d_Model_readCount_4 : decode b_Model_readCount 4 = .ok (.istore_n 1, 1) := by decide +kernel
theorem d_Model_readCount_5 : decode b_Model_readCount 5 = .ok (.aload_n 0, 1) := by decide +kernel
theorem d_Model_readCount_6 : decode b_Model_readCount 6 = .ok (.invokevirtual 143, 3) := by decide +kernel
theorem d_Model_readCount_9 : decode b_Model_readCount 9 = .ok (.lstore_n 2, 1) := by decide +kernel
theorem d_Model_readCount_10 : decode b_Model_readCount 10 = .ok (.aload_n 0, 1) := by decide +kernel
theorem d_Model_readCount_11 : decode b_Model_readCount 11 = .ok (.getfield 126, 3) := by decide +kernel
theorem d_Model_readCount_14 : decode b_Model_readCount 14 = .ok (.ifCond .ne 15, 3) := by decide +kernel
theorem d_Model_readCount_17 : decode b_Model_readCount 17 = .ok (.lload_n 2, 1) := by decide +kernel
theorem d_Model_readCount_18 : decode b_Model_readCount 18 = .ok (.lconst 0, 1) := by decide +kernel
theorem d_Model_readCount_19 : decode b_Model_readCount 19 = .ok (.lcmp, 1) := by decide +kernel
theorem d_Model_readCount_20 : decode b_Model_readCount 20 = .ok (.ifCond .ne 9, 3) := by decide +kernel
theorem d_Model_readCount_23 : decode b_Model_readCount 23 = .ok (.aload_n 0, 1) := by decide +kernel
theorem d_Model_readCount_24 : decode b_Model_readCount 24 = .ok (.iconst 5, 1) := by decide +kernel
theorem d_Model_readCount_25 : decode b_Model_readCount 25 = .ok (.iload_n 1, 1) := by decide +kernel
theorem d_Model_readCount_26 : decode b_Model_readCount 26 = .ok (.invokevirtual 132, 3) := by decide +kernel
theorem d_Model_readCount_29 : decode b_Model_readCount 29 = .ok (.lload_n 2, 1) := by decide +kernel
theorem d_Model_readCount_30 : decode b_Model_readCount 30 = .ok (.lreturn, 1) := by decide +kernel
theorem d_Model_readRun_0 : decode b_Model_readRun 0 = .ok (.iload_n 1, 1) := by decide +kernel
theorem d_Model_readRun_1 : decode b_Model_readRun 1 = .ok (.bipush 8, 2) := by decide +kernel
theorem d_Model_readRun_3 : decode b_Model_readRun 3 = .ok (.iand, 1) := by decide +kernel
theorem d_Model_readRun_4 : decode b_Model_readRun 4 = .ok (.ifCond .le 9, 3) := by decide +kernel
theorem d_Model_readRun_7 : decode b_Model_readRun 7 = .ok (.aload_n 0, 1) := by decide +kernel
theorem d_Model_readRun_8 : decode b_Model_readRun 8 = .ok (.iconst 1, 1) := by decide +kernel
theorem d_Model_readRun_9 : decode b_Model_readRun 9 = .ok (.iload_n 2, 1) := by decide +kernel
theorem d_Model_readRun_10 : decode b_Model_readRun 10 = .ok (.invokevirtual 132, 3) := by decide +kernel
theorem d_Model_readRun_13 : decode b_Model_readRun 13 = .ok (.aload_n 0, 1) := by decide +kernel
theorem d_Model_readRun_14 : decode b_Model_readRun 14 = .ok (.getfield 140, 3) := by decide +kernel
theorem d_Model_readRun_17 : decode b_Model_readRun 17 = .ok (.ifCond .ne 9, 3) := by decide +kernel
theorem d_Model_readRun_20 : decode b_Model_readRun 20 = .ok (.aload_n 0, 1) := by decide +kernel
theorem d_Model_readRun_21 : decode b_Model_readRun 21 = .ok (.iconst 4, 1) := by decide +kernel
theorem d_Model_readRun_22 : decode b_Model_readRun 22 = .ok (.iload_n 2, 1) := by decide +kernel
theorem d_Model_readRun_23 : decode b_Model_readRun 23 = .ok (.invokevirtual 132, 3) := by decide +kernel
theorem d_Model_readRun_26 : decode b_Model_readRun 26 = .ok (.aload_n 0, 1) := by decide +kernel
theorem d_Model_readRun_27 : decode b_Model_readRun 27 = .ok (.getfield 126, 3) := by decide +kernel
theorem d_Model_readRun_30 : decode b_Model_readRun 30 = .ok (.ifCond .le 4, 3) := by decide +kernel
theorem d_Model_readRun_33 : decode b_Model_readRun 33 = .ok (.return_, 1) := by decide +kernel
theorem d_Model_readRun_34 : decode b_Model_readRun 34 = .ok (.iload_n 1, 1) := by decide +kernel
theorem d_Model_readRun_35 : decode b_Model_readRun 35 = .ok (.iconst 4, 1) := by decide +kernel
theorem d_Model_readRun_36 : decode b_Model_readRun 36 = .ok (.ishr, 1) := by decide +kernel
theorem d_Model_readRun_37 : decode b_Model_readRun 37 = .ok (.ifCond .le 10, 3) := by decide +kernel
theorem d_Model_readRun_40 : decode b_Model_readRun 40 = .ok (.iload_n 1, 1) := by decide +kernel
theorem d_Model_readRun_41 : decode b_Model_readRun 41 = .ok (.iconst 4, 1) := by decide +kernel
theorem d_Model_readRun_42 : decode b_Model_readRun 42 = .ok (.ishr, 1) := by decide +kernel
theorem d_Model_readRun_43 : decode b_Model_readRun 43 = .ok (.i2l, 1) := by decide +kernel
theorem d_Model_readRun_44 : decode b_Model_readRun 44 = .ok (.goto 7, 3) := by decide +kernel
theorem d_Model_readRun_47 : decode b_Model_readRun 47 = .ok (.aload_n 0, 1) := by decide +kernel
theorem d_Model_readRun_48 : decode b_Model_readRun 48 = .ok (.invokevirtual 147, 3) := by decide +kernel
theorem d_Model_readRun_51 : decode b_Model_readRun 51 = .ok (.lstore 4, 2) := by decide +kernel
theorem d_Model_readRun_53 : decode b_Model_readRun 53 = .ok (.aload_n 0, 1) := by decide +kernel
theorem d_Model_readRun_54 : decode b_Model_readRun 54 = .ok (.getfield 126, 3) := by decide +kernel
theorem d_Model_readRun_57 : decode b_Model_readRun 57 = .ok (.ifCond .ne 24, 3) := by decide +kernel
theorem d_Model_readRun_60 : decode b_Model_readRun 60 = .ok (.aload_n 0, 1) := by decide +kernel
theorem d_Model_readRun_61 : decode b_Model_readRun 61 = .ok (.getfield 140, 3) := by decide +kernel
theorem d_Model_readRun_64 : decode b_Model_readRun 64 = .ok (.i2l, 1) := by decide +kernel
theorem d_Model_readRun_65 : decode b_Model_readRun 65 = .ok (.lload 4, 2) := by decide +kernel
theorem d_Model_readRun_67 : decode b_Model_readRun 67 = .ok (.ladd, 1) := by decide +kernel
theorem d_Model_readRun_68 : decode b_Model_readRun 68 = .ok (.iload_n 3, 1) := by decide +kernel
theorem d_Model_readRun_69 : decode b_Model_readRun 69 = .ok (.i2l, 1) := by decide +kernel
theorem d_Model_readRun_70 : decode b_Model_readRun 70 = .ok (.lcmp, 1) := by decide +kernel
theorem d_Model_readRun_71 : decode b_Model_readRun 71 = .ok (.ifCond .le 10, 3) := by decide +kernel
theorem d_Model_readRun_74 : decode b_Model_readRun 74 = .ok (.aload_n 0, 1) := by decide +kernel
theorem d_Model_readRun_75 : decode b_Model_readRun 75 = .ok (.bipush 6, 2) := by decide +kernel
theorem d_Model_readRun_77 : decode b_Model_readRun 77 = .ok (.iload_n 2, 1) := by decide +kernel
theorem d_Model_readRun_78 : decode b_Model_readRun 78 = .ok (.invokevirtual 132, 3) := by decide +kernel
theorem d_Model_readRun_81 : decode b_Model_readRun 81 = .ok (.lconst 0, 1) := by decide +kernel
theorem d_Model_readRun_82 : decode b_Model_readRun 82 = .ok (.lstore 6, 2) := by decide +kernel
theorem d_Model_readRun_84 : decode b_Model_readRun 84 = .ok (.lload 6, 2) := by decide +kernel
theorem d_Model_readRun_86 : decode b_Model_readRun 86 = .ok (.lload 4, 2) := by decide +kernel
theorem d_Model_readRun_88 : decode b_Model_readRun 88 = .ok (.lcmp, 1) := by decide +kernel
theorem d_Model_readRun_89 : decode b_Model_readRun 89 = .ok (.ifCond .ge 67, 3) := by decide +kernel
theorem d_Model_readRun_92 : decode b_Model_readRun 92 = .ok (.aload_n 0, 1) := by decide +kernel
theorem d_Model_readRun_93 : decode b_Model_readRun 93 = .ok (.getfield 126, 3) := by decide +kernel
theorem d_Model_readRun_96 : decode b_Model_readRun 96 = .ok (.ifCond .ne 60, 3) := by decide +kernel
theorem d_Model_readRun_99 : decode b_Model_readRun 99 = .ok (.aload_n 0, 1) := by decide +kernel
theorem d_Model_readRun_100 : decode b_Model_readRun 100 = .ok (.aload_n 0, 1) := by decide +kernel
theorem d_Model_readRun_101 : decode b_Model_readRun 101 = .ok (.getfield 23, 3) := by decide +kernel
theorem d_Model_readRun_104 : decode b_Model_readRun 104 = .ok (.aload_n 0, 1) := by decide +kernel
theorem d_Model_readRun_105 : decode b_Model_readRun 105 = .ok (.getfield 140, 3) := by decide +kernel
theorem d_Model_readRun_108 : decode b_Model_readRun 108 = .ok (.iconst 1, 1) := by decide +kernel
theorem d_Model_readRun_109 : decode b_Model_readRun 109 = .ok (.isub, 1) := by decide +kernel
theorem d_Model_readRun_110 : decode b_Model_readRun 110 = .ok (.iaload, 1) := by decide +kernel
theorem d_Model_readRun_111 : decode b_Model_readRun 111 = .ok (.aload_n 0, 1) := by decide +kernel
theorem d_Model_readRun_112 : decode b_Model_readRun 112 = .ok (.getfield 29, 3) := by decide +kernel
theorem d_Model_readRun_115 : decode b_Model_readRun 115 = .ok (.aload_n 0, 1) := by decide +kernel
theorem d_Model_readRun_116 : decode b_Model_readRun 116 = .ok (.getfield 140, 3) := by decide +kernel
theorem d_Model_readRun_119 : decode b_Model_readRun 119 = .ok (.iconst 1, 1) := by decide +kernel
theorem d_Model_readRun_120 : decode b_Model_readRun 120 = .ok (.isub, 1) := by decide +kernel
theorem d_Model_readRun_121 : decode b_Model_readRun 121 = .ok (.laload, 1) := by decide +kernel
theorem d_Model_readRun_122 : decode b_Model_readRun 122 = .ok (.aload_n 0, 1) := by decide +kernel
theorem d_Model_readRun_123 : decode b_Model_readRun 123 = .ok (.getfield 32, 3) := by decide +kernel
theorem d_Model_readRun_126 : decode b_Model_readRun 126 = .ok (.aload_n 0, 1) := by decide +kernel
theorem d_Model_readRun_127 : decode b_Model_readRun 127 = .ok (.getfield 140, 3) := by decide +kernel
theorem d_Model_readRun_130 : decode b_Model_readRun 130 = .ok (.iconst 1, 1) := by decide +kernel
theorem d_Model_readRun_131 : decode b_Model_readRun 131 = .ok (.isub, 1) := by decide +kernel
theorem d_Model_readRun_132 : decode b_Model_readRun 132 = .ok (.laload, 1) := by decide +kernel
theorem d_Model_readRun_133 : decode b_Model_readRun 133 = .ok (.aload_n 0, 1) := by decide +kernel
theorem d_Model_readRun_134 : decode b_Model_readRun 134 = .ok (.getfield 26, 3) := by decide +kernel
theorem d_Model_readRun_137 : decode b_Model_readRun 137 = .ok (.aload_n 0, 1) := by decide +kernel
theorem d_Model_readRun_138 : decode b_Model_readRun 138 = .ok (.getfield 140, 3) := by decide +kernel
theorem d_Model_readRun_141 : decode b_Model_readRun 141 = .ok (.iconst 1, 1) := by decide +kernel
theorem d_Model_readRun_142 : decode b_Model_readRun 142 = .ok (.isub, 1) := by decide +kernel
theorem d_Model_readRun_143 : decode b_Model_readRun 143 = .ok (.iaload, 1) := by decide +kernel
theorem d_Model_readRun_144 : decode b_Model_readRun 144 = .ok (.invokevirtual 150, 3) := by decide +kernel
theorem d_Model_readRun_147 : decode b_Model_readRun 147 = .ok (.lload 6, 2) := by decide +kernel
theorem d_Model_readRun_149 : decode b_Model_readRun 149 = .ok (.lconst 1, 1) := by decide +kernel
theorem d_Model_readRun_150 : decode b_Model_readRun 150 = .ok (.ladd, 1) := by decide +kernel
theorem d_Model_readRun_151 : decode b_Model_readRun 151 = .ok (.lstore 6, 2) := by decide +kernel
theorem d_Model_readRun_153 : decode b_Model_readRun 153 = .ok (.goto (-69), 3) := by decide +kernel
theorem d_Model_readRun_156 : decode b_Model_readRun 156 = .ok (.return_, 1) := by decide +kernel
theorem d_Model_readBytes_0 : decode b_Model_readBytes 0 = .ok (.lconst 0, 1) := by decide +kernel
theorem d_Model_readBytes_1 : decode b_Model_readBytes 1 = .ok (.lstore_n 2, 1) := by decide +kernel
theorem d_Model_readBytes_2 : decode b_Model_readBytes 2 = .ok (.iconst 0, 1) := by decide +kernel
theorem d_Model_readBytes_3 : decode b_Model_readBytes 3 = .ok (.istore 4, 2) := by decide +kernel
theorem d_Model_readBytes_5 : decode b_Model_readBytes 5 = .ok (.iload 4, 2) := by decide +kernel
theorem d_Model_readBytes_7 : decode b_Model_readBytes 7 = .ok (.iload_n 1, 1) := by decide +kernel
theorem d_Model_readBytes_8 : decode b_Model_readBytes 8 = .ok (.if_icmp .ge 20, 3) := by decide +kernel
theorem d_Model_readBytes_11 : decode b_Model_readBytes 11 = .ok (.lload_n 2, 1) := by decide +kernel
theorem d_Model_readBytes_12 : decode b_Model_readBytes 12 = .ok (.bipush 8, 2) := by decide +kernel
theorem d_Model_readBytes_14 : decode b_Model_readBytes 14 = .ok (.lshl, 1) := by decide +kernel
theorem d_Model_readBytes_15 : decode b_Model_readBytes 15 = .ok (.aload_n 0, 1) := by decide +kernel
theorem d_Model_readBytes_16 : decode b_Model_readBytes 16 = .ok (.invokevirtual 136, 3) := by decide +kernel
theorem d_Model_readBytes_19 : decode b_Model_readBytes 19 = .ok (.i2l, 1) := by decide +kernel
theorem d_Model_readBytes_20 : decode b_Model_readBytes 20 = .ok (.lor, 1) := by decide +kernel
theorem d_Model_readBytes_21 : decode b_Model_readBytes 21 = .ok (.lstore_n 2, 1) := by decide +kernel
theorem d_Model_readBytes_22 : decode b_Model_readBytes 22 = .ok (.iinc 4 1, 3) := by decide +kernel
theorem d_Model_readBytes_25 : decode b_Model_readBytes 25 = .ok (.goto (-20), 3) := by decide +kernel
theorem d_Model_readBytes_28 : decode b_Model_readBytes 28 = .ok (.lload_n 2, 1) := by decide +kernel
theorem d_Model_readBytes_29 : decode b_Model_readBytes 29 = .ok (.lreturn, 1) := by decide +kernel
theorem d_Model_readEntry_0 : decode b_Model_readEntry 0 = .ok (.iload_n 1, 1) := by decide +kernel
theorem d_Model_readEntry_1 : decode b_Model_readEntry 1 = .ok (.bipush 7, 2) := by decide +kernel
theorem d_Model_readEntry_3 : decode b_Model_readEntry 3 = .ok (.iand, 1) := by decide +kernel
theorem d_Model_readEntry_4 : decode b_Model_readEntry 4 = .ok (.istore_n 3, 1) := by decide +kernel
theorem d_Model_readEntry_5 : decode b_Model_readEntry 5 = .ok (.iload_n 1, 1) := by decide +kernel
theorem d_Model_readEntry_6 : decode b_Model_readEntry 6 = .ok (.iconst 4, 1) := by decide +kernel
theorem d_Model_readEntry_7 : decode b_Model_readEntry 7 = .ok (.ishr, 1) := by decide +kernel
theorem d_Model_readEntry_8 : decode b_Model_readEntry 8 = .ok (.istore 4, 2) := by decide +kernel
theorem d_Model_readEntry_10 : decode b_Model_readEntry 10 = .ok (.iload_n 3, 1) := by decide +kernel
theorem d_Model_readEntry_11 : decode b_Model_readEntry 11 = .ok (.iconst 5, 1) := by decide +kernel
theorem d_Model_readEntry_12 : decode b_Model_readEntry 12 = .ok (.if_icmp .gt 36, 3) := by decide +kernel
theorem d_Model_readEntry_15 : decode b_Model_readEntry 15 = .ok (.iload_n 3, 1) := by decide +kernel
theorem d_Model_readEntry_16 : decode b_Model_readEntry 16 = .ok (.iconst 1, 1) := by decide +kernel
theorem d_Model_readEntry_17 : decode b_Model_readEntry 17 = .ok (.if_icmp .ne 10, 3) := by decide +kernel
theorem d_Model_readEntry_20 : decode b_Model_readEntry 20 = .ok (.iload 4, 2) := by decide +kernel
theorem d_Model_readEntry_22 : decode b_Model_readEntry 22 = .ok (.bipush 8, 2) := by decide +kernel
theorem d_Model_readEntry_24 : decode b_Model_readEntry 24 = .ok (.if_icmp .gt 24, 3) := by decide +kernel
theorem d_Model_readEntry_27 : decode b_Model_readEntry 27 = .ok (.iload_n 3, 1) := by decide +kernel
theorem d_Model_readEntry_28 : decode b_Model_readEntry 28 = .ok (.iconst 3, 1) := by decide +kernel
theorem d_Model_readEntry_29 : decode b_Model_readEntry 29 = .ok (.if_icmp .ne 9, 3) := by decide +kernel
theorem d_Model_readEntry_32 : decode b_Model_readEntry 32 = .ok (.iload 4, 2) := by decide +kernel
theorem d_Model_readEntry_34 : decode b_Model_readEntry 34 = .ok (.iconst 1, 1) := by decide +kernel
theorem d_Model_readEntry_35 : decode b_Model_readEntry 35 = .ok (.if_icmp .gt 13, 3) := by decide +kernel
theorem d_Model_readEntry_38 : decode b_Model_readEntry 38 = .ok (.iload_n 3, 1) := by decide +kernel
theorem d_Model_readEntry_39 : decode b_Model_readEntry 39 = .ok (.iconst 4, 1) := by decide +kernel
theorem d_Model_readEntry_40 : decode b_Model_readEntry 40 = .ok (.if_icmp .ne 14, 3) := by decide +kernel
theorem d_Model_readEntry_43 : decode b_Model_readEntry 43 = .ok (.iload 4, 2) := by decide +kernel
theorem d_Model_readEntry_45 : decode b_Model_readEntry 45 = .ok (.ifCond .le 9, 3) := by decide +kernel
theorem d_Model_readEntry_48 : decode b_Model_readEntry 48 = .ok (.aload_n 0, 1) := by decide +kernel
theorem d_Model_readEntry_49 : decode b_Model_readEntry 49 = .ok (.iconst 1, 1) := by decide +kernel
theorem d_Model_readEntry_50 : decode b_Model_readEntry 50 = .ok (.iload_n 2, 1) := by decide +kernel
theorem d_Model_readEntry_51 : decode b_Model_readEntry 51 = .ok (.invokevirtual 132, 3) := by decide +kernel
theorem d_Model_readEntry_54 : decode b_Model_readEntry 54 = .ok (.aload_n 0, 1) := by decide +kernel
theorem d_Model_readEntry_55 : decode b_Model_readEntry 55 = .ok (.getfield 126, 3) := by decide +kernel
theorem d_Model_readEntry_58 : decode b_Model_readEntry 58 = .ok (.ifCond .le 4, 3) := by decide +kernel
theorem d_Model_readEntry_61 : decode b_Model_readEntry 61 = .ok (.return_, 1) := by decide +kernel
theorem d_Model_readEntry_62 : decode b_Model_readEntry 62 = .ok (.aload_n 0, 1) := by decide +kernel
theorem d_Model_readEntry_63 : decode b_Model_readEntry 63 = .ok (.iconst 3, 1) := by decide +kernel
theorem d_Model_readEntry_64 : decode b_Model_readEntry 64 = .ok (.lconst 1, 1) := by decide +kernel
theorem d_Model_readEntry_65 : decode b_Model_readEntry 65 = .ok (.invokevirtual 154, 3) := by decide +kernel
theorem d_Model_readEntry_68 : decode b_Model_readEntry 68 = .ok (.istore 5, 2) := by decide +kernel
theorem d_Model_readEntry_70 : decode b_Model_readEntry 70 = .ok (.iload_n 1, 1) := by decide +kernel
theorem d_Model_readEntry_71 : decode b_Model_readEntry 71 = .ok (.bipush 8, 2) := by decide +kernel
theorem d_Model_readEntry_73 : decode b_Model_readEntry 73 = .ok (.iand, 1) := by decide +kernel
theorem d_Model_readEntry_74 : decode b_Model_readEntry 74 = .ok (.ifCond .ne 10, 3) := by decide +kernel
theorem d_Model_readEntry_77 : decode b_Model_readEntry 77 = .ok (.aload_n 0, 1) := by decide +kernel
theorem d_Model_readEntry_78 : decode b_Model_readEntry 78 = .ok (.invokevirtual 143, 3) := by decide +kernel
theorem d_Model_readEntry_81 : decode b_Model_readEntry 81 = .ok (.goto 25, 3) := by decide +kernel
theorem d_Model_readEntry_84 : decode b_Model_readEntry 84 = .ok (.aload_n 0, 1) := by decide +kernel
theorem d_Model_readEntry_85 : decode b_Model_readEntry 85 = .ok (.getfield 140, 3) := by decide +kernel
theorem d_Model_readEntry_88 : decode b_Model_readEntry 88 = .ok (.ifCond .ne 7, 3) := by decide +kernel
theorem d_Model_readEntry_91 : decode b_Model_readEntry 91 = .ok (.lconst 0, 1) := by decide +kernel
theorem d_Model_readEntry_92 : decode b_Model_readEntry 92 = .ok (.goto 14, 3) := by decide +kernel
theorem d_Model_readEntry_95 : decode b_Model_readEntry 95 = .ok (.aload_n 0, 1) := by decide +kernel
theorem d_Model_readEntry_96 : decode b_Model_readEntry 96 = .ok (.getfield 29, 3) := by decide +kernel
theorem d_Model_readEntry_99 : decode b_Model_readEntry 99 = .ok (.aload_n 0, 1) := by decide +kernel
theorem d_Model_readEntry_100 : decode b_Model_readEntry 100 = .ok (.getfield 140, 3) := by decide +kernel
theorem d_Model_readEntry_103 : decode b_Model_readEntry 103 = .ok (.iconst 1, 1) := by decide +kernel
theorem d_Model_readEntry_104 : decode b_Model_readEntry 104 = .ok (.isub, 1) := by decide +kernel
theorem d_Model_readEntry_105 : decode b_Model_readEntry 105 = .ok (.laload, 1) := by decide +kernel
theorem d_Model_readEntry_106 : decode b_Model_readEntry 106 = .ok (.lstore 6, 2) := by decide +kernel
theorem d_Model_readEntry_108 : decode b_Model_readEntry 108 = .ok (.iload_n 3, 1) := by decide +kernel
theorem d_Model_readEntry_109 : decode b_Model_readEntry 109 = .ok (.iconst 3, 1) := by decide +kernel
theorem d_Model_readEntry_110 : decode b_Model_readEntry 110 = .ok (.if_icmp .ne 20, 3) := by decide +kernel
theorem d_Model_readEntry_113 : decode b_Model_readEntry 113 = .ok (.iload 4, 2) := by decide +kernel
theorem d_Model_readEntry_115 : decode b_Model_readEntry 115 = .ok (.iconst 1, 1) := by decide +kernel
theorem d_Model_readEntry_116 : decode b_Model_readEntry 116 = .ok (.if_icmp .ne 14, 3) := by decide +kernel
theorem d_Model_readEntry_119 : decode b_Model_readEntry 119 = .ok (.iload 5, 2) := by decide +kernel
theorem d_Model_readEntry_121 : decode b_Model_readEntry 121 = .ok (.ifCond .ge 9, 3) := by decide +kernel
theorem d_Model_readEntry_124 : decode b_Model_readEntry 124 = .ok (.aload_n 0, 1) := by decide +kernel
theorem d_Model_readEntry_125 : decode b_Model_readEntry 125 = .ok (.iconst 4, 1) := by decide +kernel
theorem d_Model_readEntry_126 : decode b_Model_readEntry 126 = .ok (.iload_n 2, 1) := by decide +kernel
theorem d_Model_readEntry_127 : decode b_Model_readEntry 127 = .ok (.invokevirtual 132, 3) := by decide +kernel
theorem d_Model_readEntry_130 : decode b_Model_readEntry 130 = .ok (.aload_n 0, 1) := by decide +kernel
theorem d_Model_readEntry_131 : decode b_Model_readEntry 131 = .ok (.getfield 126, 3) := by decide +kernel
theorem d_Model_readEntry_134 : decode b_Model_readEntry 134 = .ok (.ifCond .le 4, 3) := by decide +kernel
theorem d_Model_readEntry_137 : decode b_Model_readEntry 137 = .ok (.return_, 1) := by decide +kernel
theorem d_Model_readEntry_138 : decode b_Model_readEntry 138 = .ok (.iload_n 3, 1) := by decide +kernel
theorem d_Model_readEntry_139 : decode b_Model_readEntry 139 = .ok (.ifCond .eq 8, 3) := by decide +kernel
theorem d_Model_readEntry_142 : decode b_Model_readEntry 142 = .ok (.iload_n 3, 1) := by decide +kernel
theorem d_Model_readEntry_143 : decode b_Model_readEntry 143 = .ok (.iconst 2, 1) := by decide +kernel
theorem d_Model_readEntry_144 : decode b_Model_readEntry 144 = .ok (.if_icmp .ne 9, 3) := by decide +kernel
theorem d_Model_readEntry_147 : decode b_Model_readEntry 147 = .ok (.iload 4, 2) := by decide +kernel
theorem d_Model_readEntry_149 : decode b_Model_readEntry 149 = .ok (.i2l, 1) := by decide +kernel
theorem d_Model_readEntry_150 : decode b_Model_readEntry 150 = .ok (.goto 50, 3) := by decide +kernel
theorem d_Model_readEntry_153 : decode b_Model_readEntry 153 = .ok (.iload_n 3, 1) := by decide +kernel
theorem d_Model_readEntry_154 : decode b_Model_readEntry 154 = .ok (.iconst 4, 1) := by decide +kernel
theorem d_Model_readEntry_155 : decode b_Model_readEntry 155 = .ok (.if_icmp .ne 11, 3) := by decide +kernel
theorem d_Model_readEntry_158 : decode b_Model_readEntry 158 = .ok (.aload_n 0, 1) := by decide +kernel
theorem d_Model_readEntry_159 : decode b_Model_readEntry 159 = .ok (.iconst 4, 1) := by decide +kernel
theorem d_Model_readEntry_160 : decode b_Model_readEntry 160 = .ok (.invokevirtual 158, 3) := by decide +kernel
theorem d_Model_readEntry_163 : decode b_Model_readEntry 163 = .ok (.goto 37, 3) := by decide +kernel
theorem d_Model_readEntry_166 : decode b_Model_readEntry 166 = .ok (.iload_n 3, 1) := by decide +kernel
theorem d_Model_readEntry_167 : decode b_Model_readEntry 167 = .ok (.iconst 1, 1) := by decide +kernel
theorem d_Model_readEntry_168 : decode b_Model_readEntry 168 = .ok (.if_icmp .ne 12, 3) := by decide +kernel
theorem d_Model_readEntry_171 : decode b_Model_readEntry 171 = .ok (.aload_n 0, 1) := by decide +kernel
theorem d_Model_readEntry_172 : decode b_Model_readEntry 172 = .ok (.iload 4, 2) := by decide +kernel
theorem d_Model_readEntry_174 : decode b_Model_readEntry 174 = .ok (.invokevirtual 158, 3) := by decide +kernel
theorem d_Model_readEntry_177 : decode b_Model_readEntry 177 = .ok (.goto 23, 3) := by decide +kernel
theorem d_Model_readEntry_180 : decode b_Model_readEntry 180 = .ok (.iload 4, 2) := by decide +kernel
theorem d_Model_readEntry_182 : decode b_Model_readEntry 182 = .ok (.iconst 1, 1) := by decide +kernel
theorem d_Model_readEntry_183 : decode b_Model_readEntry 183 = .ok (.if_icmp .ne 13, 3) := by decide +kernel
theorem d_Model_readEntry_186 : decode b_Model_readEntry 186 = .ok (.aload_n 0, 1) := by decide +kernel
theorem d_Model_readEntry_187 : decode b_Model_readEntry 187 = .ok (.getfield 32, 3) := by decide +kernel
theorem d_Model_readEntry_190 : decode b_Model_readEntry 190 = .ok (.iload 5, 2) := by decide +kernel
theorem d_Model_readEntry_192 : decode b_Model_readEntry 192 = .ok (.laload, 1) := by decide +kernel
theorem d_Model_readEntry_193 : decode b_Model_readEntry 193 = .ok (.goto 7, 3) := by decide +kernel
theorem d_Model_readEntry_196 : decode b_Model_readEntry 196 = .ok (.aload_n 0, 1) := by decide +kernel
theorem d_Model_readEntry_197 : decode b_Model_readEntry 197 = .ok (.invokevirtual 143, 3) := by decide +kernel
theorem d_Model_readEntry_200 : decode b_Model_readEntry 200 = .ok (.lstore 8, 2) := by decide +kernel
theorem d_Model_readEntry_202 : decode b_Model_readEntry 202 = .ok (.iload_n 3, 1) := by decide +kernel
theorem d_Model_readEntry_203 : decode b_Model_readEntry 203 = .ok (.iconst 1, 1) := by decide +kernel
theorem d_Model_readEntry_204 : decode b_Model_readEntry 204 = .ok (.if_icmp .ne 8, 3) := by decide +kernel
theorem d_Model_readEntry_207 : decode b_Model_readEntry 207 = .ok (.iload 4, 2) := by decide +kernel
theorem d_Model_readEntry_209 : decode b_Model_readEntry 209 = .ok (.goto 4, 3) := by decide +kernel
theorem d_Model_readEntry_212 : decode b_Model_readEntry 212 = .ok (.iconst 0, 1) := by decide +kernel
theorem d_Model_readEntry_213 : decode b_Model_readEntry 213 = .ok (.istore 10, 2) := by decide +kernel
theorem d_Model_readEntry_215 : decode b_Model_readEntry 215 = .ok (.iload_n 3, 1) := by decide +kernel
theorem d_Model_readEntry_216 : decode b_Model_readEntry 216 = .ok (.iconst 1, 1) := by decide +kernel
theorem d_Model_readEntry_217 : decode b_Model_readEntry 217 = .ok (.if_icmp .ne 66, 3) := by decide +kernel
theorem d_Model_readEntry_220 : decode b_Model_readEntry 220 = .ok (.iload 4, 2) := by decide +kernel
theorem d_Model_readEntry_222 : decode b_Model_readEntry 222 = .ok (.ifCond .ne 61, 3) := by decide +kernel
theorem d_Model_readEntry_225 : decode b_Model_readEntry 225 = .ok (.aload_n 0, 1) := by decide +kernel
theorem d_Model_readEntry_226 : decode b_Model_readEntry 226 = .ok (.iconst 1, 1) := by decide +kernel
theorem d_Model_readEntry_227 : decode b_Model_readEntry 227 = .ok (.aload_n 0, 1) := by decide +kernel
theorem d_Model_readEntry_228 : decode b_Model_readEntry 228 = .ok (.invokevirtual 147, 3) := by decide +kernel
theorem d_Model_readEntry_231 : decode b_Model_readEntry 231 = .ok (.invokevirtual 154, 3) := by decide +kernel
theorem d_Model_readEntry_234 : decode b_Model_readEntry 234 = .ok (.istore 11, 2) := by decide +kernel
theorem d_Model_readEntry_236 : decode b_Model_readEntry 236 = .ok (.iload 11, 2) := by decide +kernel
theorem d_Model_readEntry_238 : decode b_Model_readEntry 238 = .ok (.ifCond .ge 9, 3) := by decide +kernel
theorem d_Model_readEntry_241 : decode b_Model_readEntry 241 = .ok (.aload_n 0, 1) := by decide +kernel
theorem d_Model_readEntry_242 : decode b_Model_readEntry 242 = .ok (.iconst 4, 1) := by decide +kernel
theorem d_Model_readEntry_243 : decode b_Model_readEntry 243 = .ok (.iload_n 2, 1) := by decide +kernel
theorem d_Model_readEntry_244 : decode b_Model_readEntry 244 = .ok (.invokevirtual 132, 3) := by decide +kernel
theorem d_Model_readEntry_247 : decode b_Model_readEntry 247 = .ok (.iload 11, 2) := by decide +kernel
theorem d_Model_readEntry_249 : decode b_Model_readEntry 249 = .ok (.ifCond .ge 7, 3) := by decide +kernel
theorem d_Model_readEntry_252 : decode b_Model_readEntry 252 = .ok (.lconst 0, 1) := by decide +kernel
theorem d_Model_readEntry_253 : decode b_Model_readEntry 253 = .ok (.goto 10, 3) := by decide +kernel
theorem d_Model_readEntry_256 : decode b_Model_readEntry 256 = .ok (.aload_n 0, 1) := by decide +kernel
theorem d_Model_readEntry_257 : decode b_Model_readEntry 257 = .ok (.getfield 32, 3) := by decide +kernel
theorem d_Model_readEntry_260 : decode b_Model_readEntry 260 = .ok (.iload 11, 2) := by decide +kernel
theorem d_Model_readEntry_262 : decode b_Model_readEntry 262 = .ok (.laload, 1) := by decide +kernel
theorem d_Model_readEntry_263 : decode b_Model_readEntry 263 = .ok (.lstore 8, 2) := by decide +kernel
theorem d_Model_readEntry_265 : decode b_Model_readEntry 265 = .ok (.iload 11, 2) := by decide +kernel
theorem d_Model_readEntry_267 : decode b_Model_readEntry 267 = .ok (.ifCond .ge 7, 3) := by decide +kernel
theorem d_Model_readEntry_270 : decode b_Model_readEntry 270 = .ok (.iconst 0, 1) := by decide +kernel
theorem d_Model_readEntry_271 : decode b_Model_readEntry 271 = .ok (.goto 10, 3) := by decide +kernel
theorem d_Model_readEntry_274 : decode b_Model_readEntry 274 = .ok (.aload_n 0, 1) := by decide +kernel
theorem d_Model_readEntry_275 : decode b_Model_readEntry 275 = .ok (.getfield 26, 3) := by decide +kernel
theorem d_Model_readEntry_278 : decode b_Model_readEntry 278 = .ok (.iload 11, 2) := by decide +kernel
theorem d_Model_readEntry_280 : decode b_Model_readEntry 280 = .ok (.iaload, 1) := by decide +kernel
theorem d_Model_readEntry_281 : decode b_Model_readEntry 281 = .ok (.istore 10, 2) := by decide +kernel
theorem d_Model_readEntry_283 : decode b_Model_readEntry 283 = .ok (.iload_n 3, 1) := by decide +kernel
theorem d_Model_readEntry_284 : decode b_Model_readEntry 284 = .ok (.iconst 2, 1) := by decide +kernel
theorem d_Model_readEntry_285 : decode b_Model_readEntry 285 = .ok (.if_icmp .ne 47, 3) := by decide +kernel
theorem d_Model_readEntry_288 : decode b_Model_readEntry 288 = .ok (.aload_n 0, 1) := by decide +kernel
theorem d_Model_readEntry_289 : decode b_Model_readEntry 289 = .ok (.getfield 126, 3) := by decide +kernel
theorem d_Model_readEntry_292 : decode b_Model_readEntry 292 = .ok (.ifCond .ne 40, 3) := by decide +kernel
theorem d_Model_readEntry_295 : decode b_Model_readEntry 295 = .ok (.aload_n 0, 1) := by decide +kernel
theorem d_Model_readEntry_296 : decode b_Model_readEntry 296 = .ok (.invokevirtual 136, 3) := by decide +kernel
theorem d_Model_readEntry_299 : decode b_Model_readEntry 299 = .ok (.istore 10, 2) := by decide +kernel
theorem d_Model_readEntry_301 : decode b_Model_readEntry 301 = .ok (.aload_n 0, 1) := by decide +kernel
theorem d_Model_readEntry_302 : decode b_Model_readEntry 302 = .ok (.getfield 126, 3) := by decide +kernel
theorem d_Model_readEntry_305 : decode b_Model_readEntry 305 = .ok (.ifCond .ne 27, 3) := by decide +kernel
theorem d_Model_readEntry_308 : decode b_Model_readEntry 308 = .ok (.iload 10, 2) := by decide +kernel
theorem d_Model_readEntry_310 : decode b_Model_readEntry 310 = .ok (.iconst 1, 1) := by decide +kernel
theorem d_Model_readEntry_311 : decode b_Model_readEntry 311 = .ok (.if_icmp .lt 10, 3) := by decide +kernel
theorem d_Model_readEntry_314 : decode b_Model_readEntry 314 = .ok (.iload 10, 2) := by decide +kernel
theorem d_Model_readEntry_316 : decode b_Model_readEntry 316 = .ok (.bipush 31, 2) := by decide +kernel
theorem d_Model_readEntry_318 : decode b_Model_readEntry 318 = .ok (.if_icmp .le 14, 3) := by decide +kernel
theorem d_Model_readEntry_321 : decode b_Model_readEntry 321 = .ok (.aload_n 0, 1) := by decide +kernel
theorem d_Model_readEntry_322 : decode b_Model_readEntry 322 = .ok (.iconst 5, 1) := by decide +kernel
theorem d_Model_readEntry_323 : decode b_Model_readEntry 323 = .ok (.aload_n 0, 1) := by decide +kernel
theorem d_Model_readEntry_324 : decode b_Model_readEntry 324 = .ok (.getfield 129, 3) := by decide +kernel
theorem d_Model_readEntry_327 : decode b_Model_readEntry 327 = .ok (.iconst 1, 1) := by decide +kernel
theorem d_Model_readEntry_328 : decode b_Model_readEntry 328 = .ok (.isub, 1) := by decide +kernel
theorem d_Model_readEntry_329 : decode b_Model_readEntry 329 = .ok (.invokevirtual 132, 3) := by decide +kernel
theorem d_Model_readEntry_332 : decode b_Model_readEntry 332 = .ok (.aload_n 0, 1) := by decide +kernel
theorem d_Model_readEntry_333 : decode b_Model_readEntry 333 = .ok (.getfield 126, 3) := by decide +kernel
theorem d_Model_readEntry_336 : decode b_Model_readEntry 336 = .ok (.ifCond .ne 14, 3) := by decide +kernel
theorem d_Model_readEntry_339 : decode b_Model_readEntry 339 = .ok (.aload_n 0, 1) := by decide +kernel
theorem d_Model_readEntry_340 : decode b_Model_readEntry 340 = .ok (.iload_n 3, 1) := by decide +kernel
theorem d_Model_readEntry_341 : decode b_Model_readEntry 341 = .ok (.lload 6, 2) := by decide +kernel
theorem d_Model_readEntry_343 : decode b_Model_readEntry 343 = .ok (.lload 8, 2) := by decide +kernel
theorem d_Model_readEntry_345 : decode b_Model_readEntry 345 = .ok (.iload 10, 2) := by decide +kernel
theorem d_Model_readEntry_347 : decode b_Model_readEntry 347 = .ok (.invokevirtual 150, 3) := by decide +kernel
theorem d_Model_readEntry_350 : decode b_Model_readEntry 350 = .ok (.return_, 1) := by decide +kernel
theorem d_Model_read_0 : decode b_Model_read 0 = .ok (.aload_n 0, 1) := by decide +kernel
theorem d_Model_read_1 : decode b_Model_read 1 = .ok (.iconst 0, 1) := by decide +kernel
theorem d_Model_read_2 : decode b_Model_read 2 = .ok (.putfield 41, 3) := by decide +kernel
theorem d_Model_read_5 : decode b_Model_read 5 = .ok (.aload_n 0, 1) := by decide +kernel
theorem d_Model_read_6 : decode b_Model_read 6 = .ok (.aload_n 0, 1) := by decide +kernel
theorem d_Model_read_7 : decode b_Model_read 7 = .ok (.aload_n 0, 1) := by decide +kernel
theorem d_Model_read_8 : decode b_Model_read 8 = .ok (.iconst 0, 1) := by decide +kernel
theorem d_Model_read_9 : decode b_Model_read 9 = .ok (.dup_x1, 1) := by decide +kernel
theorem d_Model_read_10 : decode b_Model_read 10 = .ok (.putfield 140, 3) := by decide +kernel
theorem d_Model_read_13 : decode b_Model_read 13 = .ok (.dup_x1, 1) := by decide +kernel
theorem d_Model_read_14 : decode b_Model_read 14 = .ok (.putfield 126, 3) := by decide +kernel
theorem d_Model_read_17 : decode b_Model_read 17 = .ok (.putfield 129, 3) := by decide +kernel
theorem d_Model_read_20 : decode b_Model_read 20 = .ok (.aload_n 0, 1) := by decide +kernel
theorem d_Model_read_21 : decode b_Model_read 21 = .ok (.invokevirtual 143, 3) := by decide +kernel
theorem d_Model_read_24 : decode b_Model_read 24 = .ok (.lstore_n 1, 1) := by decide +kernel
theorem d_Model_read_25 : decode b_Model_read 25 = .ok (.lload_n 1, 1) := by decide +kernel
theorem d_Model_read_26 : decode b_Model_read 26 = .ok (.ldc2_w 162, 3) := by decide +kernel
theorem d_Model_read_29 : decode b_Model_read 29 = .ok (.lcmp, 1) := by decide +kernel
theorem d_Model_read_30 : decode b_Model_read 30 = .ok (.ifCond .le 10, 3) := by decide +kernel
theorem d_Model_read_33 : decode b_Model_read 33 = .ok (.aload_n 0, 1) := by decide +kernel
theorem d_Model_read_34 : decode b_Model_read 34 = .ok (.bipush 6, 2) := by decide +kernel
theorem d_Model_read_36 : decode b_Model_read 36 = .ok (.iconst 0, 1) := by decide +kernel
theorem d_Model_read_37 : decode b_Model_read 37 = .ok (.invokevirtual 132, 3) := by decide +kernel
theorem d_Model_read_40 : decode b_Model_read 40 = .ok (.aload_n 0, 1) := by decide +kernel
theorem d_Model_read_41 : decode b_Model_read 41 = .ok (.getfield 126, 3) := by decide +kernel
theorem d_Model_read_44 : decode b_Model_read 44 = .ok (.ifCond .ne 65, 3) := by decide +kernel
theorem d_Model_read_47 : decode b_Model_read 47 = .ok (.aload_n 0, 1) := by decide +kernel
theorem d_Model_read_48 : decode b_Model_read 48 = .ok (.getfield 140, 3) := by decide +kernel
theorem d_Model_read_51 : decode b_Model_read 51 = .ok (.i2l, 1) := by decide +kernel
theorem d_Model_read_52 : decode b_Model_read 52 = .ok (.lload_n 1, 1) := by decide +kernel
theorem d_Model_read_53 : decode b_Model_read 53 = .ok (.lcmp, 1) := by decide +kernel
theorem d_Model_read_54 : decode b_Model_read 54 = .ok (.ifCond .ge 55, 3) := by decide +kernel
theorem d_Model_read_57 : decode b_Model_read 57 = .ok (.aload_n 0, 1) := by decide +kernel
theorem d_Model_read_58 : decode b_Model_read 58 = .ok (.getfield 129, 3) := by decide +kernel
theorem d_Model_read_61 : decode b_Model_read 61 = .ok (.istore_n 3, 1) := by decide +kernel
theorem d_Model_read_62 : decode b_Model_read 62 = .ok (.aload_n 0, 1) := by decide +kernel
theorem d_Model_read_63 : decode b_Model_read 63 = .ok (.invokevirtual 136, 3) := by decide +kernel
theorem d_Model_read_66 : decode b_Model_read 66 = .ok (.istore 4, 2) := by decide +kernel
theorem d_Model_read_68 : decode b_Model_read 68 = .ok (.aload_n 0, 1) := by decide +kernel
theorem d_Model_read_69 : decode b_Model_read 69 = .ok (.getfield 126, 3) := by decide +kernel
theorem d_Model_read_72 : decode b_Model_read 72 = .ok (.ifCond .le 6, 3) := by decide +kernel
theorem d_Model_read_75 : decode b_Model_read 75 = .ok (.goto (-35), 3) := by decide +kernel
theorem d_Model_read_78 : decode b_Model_read 78 = .ok (.iload 4, 2) := by decide +kernel
theorem d_Model_read_80 : decode b_Model_read 80 = .ok (.bipush 7, 2) := by decide +kernel
theorem d_Model_read_82 : decode b_Model_read 82 = .ok (.iand, 1) := by decide +kernel
theorem d_Model_read_83 : decode b_Model_read 83 = .ok (.iconst 5, 1) := by decide +kernel
theorem d_Model_read_84 : decode b_Model_read 84 = .ok (.if_icmp .ne 15, 3) := by decide +kernel
theorem d_Model_read_87 : decode b_Model_read 87 = .ok (.aload_n 0, 1) := by decide +kernel
theorem d_Model_read_88 : decode b_Model_read 88 = .ok (.iload 4, 2) := by decide +kernel
theorem d_Model_read_90 : decode b_Model_read 90 = .ok (.iload_n 3, 1) := by decide +kernel
theorem d_Model_read_91 : decode b_Model_read 91 = .ok (.lload_n 1, 1) := by decide +kernel
theorem d_Model_read_92 : decode b_Model_read 92 = .ok (.l2i, 1) := by decide +kernel
theorem d_Model_read_93 : decode b_Model_read 93 = .ok (.invokevirtual 164, 3) := by decide +kernel
theorem d_Model_read_96 : decode b_Model_read 96 = .ok (.goto 10, 3) := by decide +kernel
theorem d_Model_read_99 : decode b_Model_read 99 = .ok (.aload_n 0, 1) := by decide +kernel
theorem d_Model_read_100 : decode b_Model_read 100 = .ok (.iload 4, 2) := by decide +kernel
theorem d_Model_read_102 : decode b_Model_read 102 = .ok (.iload_n 3, 1) := by decide +kernel
theorem d_Model_read_103 : decode b_Model_read 103 = .ok (.invokevirtual 168, 3) := by decide +kernel
theorem d_Model_read_106 : decode b_Model_read 106 = .ok (.goto (-66), 3) := by decide +kernel
theorem d_Model_read_109 : decode b_Model_read 109 = .ok (.aload_n 0, 1) := by decide +kernel
theorem d_Model_read_110 : decode b_Model_read 110 = .ok (.getfield 126, 3) := by decide +kernel
theorem d_Model_read_113 : decode b_Model_read 113 = .ok (.ifCond .ne 24, 3) := by decide +kernel
theorem d_Model_read_116 : decode b_Model_read 116 = .ok (.aload_n 0, 1) := by decide +kernel
theorem d_Model_read_117 : decode b_Model_read 117 = .ok (.getfield 129, 3) := by decide +kernel
theorem d_Model_read_120 : decode b_Model_read 120 = .ok (.aload_n 0, 1) := by decide +kernel
theorem d_Model_read_121 : decode b_Model_read 121 = .ok (.getfield 123, 3) := by decide +kernel
theorem d_Model_read_124 : decode b_Model_read 124 = .ok (.if_icmp .ge 13, 3) := by decide +kernel
theorem d_Model_read_127 : decode b_Model_read 127 = .ok (.aload_n 0, 1) := by decide +kernel
theorem d_Model_read_128 : decode b_Model_read 128 = .ok (.bipush 7, 2) := by decide +kernel
theorem d_Model_read_130 : decode b_Model_read 130 = .ok (.aload_n 0, 1) := by decide +kernel
theorem d_Model_read_131 : decode b_Model_read 131 = .ok (.getfield 129, 3) := by decide +kernel
theorem d_Model_read_134 : decode b_Model_read 134 = .ok (.invokevirtual 132, 3) := by decide +kernel
theorem d_Model_read_137 : decode b_Model_read 137 = .ok (.aload_n 0, 1) := by decide +kernel
theorem d_Model_read_138 : decode b_Model_read 138 = .ok (.getfield 126, 3) := by decide +kernel
theorem d_Model_read_141 : decode b_Model_read 141 = .ok (.ifCond .le 10, 3) := by decide +kernel
theorem d_Model_read_144 : decode b_Model_read 144 = .ok (.iconst (-1), 1) := by decide +kernel
theorem d_Model_read_145 : decode b_Model_read 145 = .ok (.aload_n 0, 1) := by decide +kernel
theorem d_Model_read_146 : decode b_Model_read 146 = .ok (.getfield 126, 3) := by decide +kernel
theorem d_Model_read_149 : decode b_Model_read 149 = .ok (.isub, 1) := by decide +kernel
theorem d_Model_read_150 : decode b_Model_read 150 = .ok (.ireturn, 1) := by decide +kernel
theorem d_Model_read_151 : decode b_Model_read 151 = .ok (.aload_n 0, 1) := by decide +kernel
theorem d_Model_read_152 : decode b_Model_read 152 = .ok (.aload_n 0, 1) := by decide +kernel
theorem d_Model_read_153 : decode b_Model_read 153 = .ok (.getfield 140, 3) := by decide +kernel
theorem d_Model_read_156 : decode b_Model_read 156 = .ok (.putfield 63, 3) := by decide +kernel
theorem d_Model_read_159 : decode b_Model_read 159 = .ok (.iconst 0, 1) := by decide +kernel
theorem d_Model_read_160 : decode b_Model_read 160 = .ok (.istore_n 3, 1) := by decide +kernel
theorem d_Model_read_161 : decode b_Model_read 161 = .ok (.iload_n 3, 1) := by decide +kernel
theorem d_Model_read_162 : decode b_Model_read 162 = .ok (.aload_n 0, 1) := by decide +kernel
theorem d_Model_read_163 : decode b_Model_read 163 = .ok (.getfield 63, 3) := by decide +kernel
theorem d_Model_read_166 : decode b_Model_read 166 = .ok (.if_icmp .ge 57, 3) := by decide +kernel
theorem d_Model_read_169 : decode b_Model_read 169 = .ok (.aload_n 0, 1) := by decide +kernel
theorem d_Model_read_170 : decode b_Model_read 170 = .ok (.getfield 7, 3) := by decide +kernel
theorem d_Model_read_173 : decode b_Model_read 173 = .ok (.iload_n 3, 1) := by decide +kernel
theorem d_Model_read_174 : decode b_Model_read 174 = .ok (.aload_n 0, 1) := by decide +kernel
theorem d_Model_read_175 : decode b_Model_read 175 = .ok (.getfield 23, 3) := by decide +kernel
theorem d_Model_read_178 : decode b_Model_read 178 = .ok (.iload_n 3, 1) := by decide +kernel
theorem d_Model_read_179 : decode b_Model_read 179 = .ok (.iaload, 1) := by decide +kernel
theorem d_Model_read_180 : decode b_Model_read 180 = .ok (.iastore, 1) := by decide +kernel
theorem d_Model_read_181 : decode b_Model_read 181 = .ok (.aload_n 0, 1) := by decide +kernel
theorem d_Model_read_182 : decode b_Model_read 182 = .ok (.getfield 16, 3) := by decide +kernel
theorem d_Model_read_185 : decode b_Model_read 185 = .ok (.iload_n 3, 1) := by decide +kernel
theorem d_Model_read_186 : decode b_Model_read 186 = .ok (.aload_n 0, 1) := by decide +kernel
theorem d_Model_read_187 : decode b_Model_read 187 = .ok (.getfield 29, 3) := by decide +kernel
theorem d_Model_read_190 : decode b_Model_read 190 = .ok (.iload_n 3, 1) := by decide +kernel
theorem d_Model_read_191 : decode b_Model_read 191 = .ok (.laload, 1) := by decide +kernel
theorem d_Model_read_192 : decode b_Model_read 192 = .ok (.lastore, 1) := by decide +kernel
theorem d_Model_read_193 : decode b_Model_read 193 = .ok (.aload_n 0, 1) := by decide +kernel
theorem d_Model_read_194 : decode b_Model_read 194 = .ok (.getfield 20, 3) := by decide +kernel
theorem d_Model_read_197 : decode b_Model_read 197 = .ok (.iload_n 3, 1) := by decide +kernel
theorem d_Model_read_198 : decode b_Model_read 198 = .ok (.aload_n 0, 1) := by decide +kernel
theorem d_Model_read_199 : decode b_Model_read 199 = .ok (.getfield 32, 3) := by decide +kernel
theorem d_Model_read_202 : decode b_Model_read 202 = .ok (.iload_n 3, 1) := by decide +kernel
theorem d_Model_read_203 : decode b_Model_read 203 = .ok (.laload, 1) := by decide +kernel
theorem d_Model_read_204 : decode b_Model_read 204 = .ok (.lastore, 1) := by decide +kernel
theorem d_Model_read_205 : decode b_Model_read 205 = .ok (.aload_n 0, 1) := by decide +kernel
theorem d_Model_read_206 : decode b_Model_read 206 = .ok (.getfield 13, 3) := by decide +kernel
theorem d_Model_read_209 : decode b_Model_read 209 = .ok (.iload_n 3, 1) := by decide +kernel
theorem d_Model_read_210 : decode b_Model_read 210 = .ok (.aload_n 0, 1) := by decide +kernel
theorem d_Model_read_211 : decode b_Model_read 211 = .ok (.getfield 26, 3) := by decide +kernel
theorem d_Model_read_214 : decode b_Model_read 214 = .ok (.iload_n 3, 1) := by decide +kernel
theorem d_Model_read_215 : decode b_Model_read 215 = .ok (.iaload, 1) := by decide +kernel
theorem d_Model_read_216 : decode b_Model_read 216 = .ok (.iastore, 1) := by decide +kernel
theorem d_Model_read_217 : decode b_Model_read 217 = .ok (.iinc 3 1, 3) := by decide +kernel
theorem d_Model_read_220 : decode b_Model_read 220 = .ok (.goto (-59), 3) := by decide +kernel
theorem d_Model_read_223 : decode b_Model_read 223 = .ok (.aload_n 0, 1) := by decide +kernel
theorem d_Model_read_224 : decode b_Model_read 224 = .ok (.getfield 63, 3) := by decide +kernel
theorem d_Model_read_227 : decode b_Model_read 227 = .ok (.ireturn, 1) := by decide +kernel
theorem d_Model_poke_0 : decode b_Model_poke 0 = .ok (.iload_n 1, 1) := by decide +kernel
theorem d_Model_poke_1 : decode b_Model_poke 1 = .ok (.ifCond .lt 15, 3) := by decide +kernel
theorem d_Model_poke_4 : decode b_Model_poke 4 = .ok (.iload_n 1, 1) := by decide +kernel
theorem d_Model_poke_5 : decode b_Model_poke 5 = .ok (.aload_n 0, 1) := by decide +kernel
theorem d_Model_poke_6 : decode b_Model_poke 6 = .ok (.getfield 123, 3) := by decide +kernel
theorem d_Model_poke_9 : decode b_Model_poke 9 = .ok (.if_icmp .gt 7, 3) := by decide +kernel
theorem d_Model_poke_12 : decode b_Model_poke 12 = .ok (.iconst 1, 1) := by decide +kernel
theorem d_Model_poke_13 : decode b_Model_poke 13 = .ok (.goto 4, 3) := by decide +kernel
theorem d_Model_poke_16 : decode b_Model_poke 16 = .ok (.iconst 0, 1) := by decide +kernel
theorem d_Model_poke_17 : decode b_Model_poke 17 = .ok (.istore_n 3, 1) := by decide +kernel
theorem d_Model_poke_18 : decode b_Model_poke 18 = .ok (.aload_n 0, 1) := by decide +kernel
theorem d_Model_poke_19 : decode b_Model_poke 19 = .ok (.iload_n 2, 1) := by decide +kernel
theorem d_Model_poke_20 : decode b_Model_poke 20 = .ok (.i2l, 1) := by decide +kernel
theorem d_Model_poke_21 : decode b_Model_poke 21 = .ok (.lconst 0, 1) := by decide +kernel
theorem d_Model_poke_22 : decode b_Model_poke 22 = .ok (.ldc2_w 171, 3) := by decide +kernel
theorem d_Model_poke_25 : decode b_Model_poke 25 = .ok (.invokestatic 47, 3) := by decide +kernel
theorem d_Model_poke_28 : decode b_Model_poke 28 = .ok (.ifCond .ne 7, 3) := by decide +kernel
theorem d_Model_poke_31 : decode b_Model_poke 31 = .ok (.iconst 1, 1) := by decide +kernel
theorem d_Model_poke_32 : decode b_Model_poke 32 = .ok (.goto 4, 3) := by decide +kernel
theorem d_Model_poke_35 : decode b_Model_poke 35 = .ok (.iconst 0, 1) := by decide +kernel
theorem d_Model_poke_36 : decode b_Model_poke 36 = .ok (.iload_n 3, 1) := by decide +kernel
theorem d_Model_poke_37 : decode b_Model_poke 37 = .ok (.ifCond .ne 7, 3) := by decide +kernel
theorem d_Model_poke_40 : decode b_Model_poke 40 = .ok (.iconst 1, 1) := by decide +kernel
theorem d_Model_poke_41 : decode b_Model_poke 41 = .ok (.goto 4, 3) := by decide +kernel
theorem d_Model_poke_44 : decode b_Model_poke 44 = .ok (.iconst 0, 1) := by decide +kernel
theorem d_Model_poke_45 : decode b_Model_poke 45 = .ok (.iload_n 1, 1) := by decide +kernel
theorem d_Model_poke_46 : decode b_Model_poke 46 = .ok (.sipush 5000, 3) := by decide +kernel
theorem d_Model_poke_49 : decode b_Model_poke 49 = .ok (.if_icmp .ne 7, 3) := by decide +kernel
theorem d_Model_poke_52 : decode b_Model_poke 52 = .ok (.iconst 1, 1) := by decide +kernel
theorem d_Model_poke_53 : decode b_Model_poke 53 = .ok (.goto 4, 3) := by decide +kernel
theorem d_Model_poke_56 : decode b_Model_poke 56 = .ok (.iconst 0, 1) := by decide +kernel
theorem d_Model_poke_57 : decode b_Model_poke 57 = .ok (.invokevirtual 66, 3) := by decide +kernel
theorem d_Model_poke_60 : decode b_Model_poke 60 = .ok (.ifCond .eq 4, 3) := by decide +kernel
theorem d_Model_poke_63 : decode b_Model_poke 63 = .ok (.return_, 1) := by decide +kernel
theorem d_Model_poke_64 : decode b_Model_poke 64 = .ok (.aload_n 0, 1) := by decide +kernel
theorem d_Model_poke_65 : decode b_Model_poke 65 = .ok (.getfield 35, 3) := by decide +kernel
theorem d_Model_poke_68 : decode b_Model_poke 68 = .ok (.iload_n 1, 1) := by decide +kernel
theorem d_Model_poke_69 : decode b_Model_poke 69 = .ok (.iload_n 2, 1) := by decide +kernel
theorem d_Model_poke_70 : decode b_Model_poke 70 = .ok (.iastore, 1) := by decide +kernel
theorem d_Model_poke_71 : decode b_Model_poke 71 = .ok (.aload_n 0, 1) := by decide +kernel
theorem d_Model_poke_72 : decode b_Model_poke 72 = .ok (.iload_n 1, 1) := by decide +kernel
theorem d_Model_poke_73 : decode b_Model_poke 73 = .ok (.aload_n 0, 1) := by decide +kernel
theorem d_Model_poke_74 : decode b_Model_poke 74 = .ok (.getfield 123, 3) := by decide +kernel
theorem d_Model_poke_77 : decode b_Model_poke 77 = .ok (.if_icmp .ne 12, 3) := by decide +kernel
theorem d_Model_poke_80 : decode b_Model_poke 80 = .ok (.aload_n 0, 1) := by decide +kernel
theorem d_Model_poke_81 : decode b_Model_poke 81 = .ok (.getfield 123, 3) := by decide +kernel
theorem d_Model_poke_84 : decode b_Model_poke 84 = .ok (.iconst 1, 1) := by decide +kernel
theorem d_Model_poke_85 : decode b_Model_poke 85 = .ok (.iadd, 1) := by decide +kernel
theorem d_Model_poke_86 : decode b_Model_poke 86 = .ok (.goto 7, 3) := by decide +kernel
theorem d_Model_poke_89 : decode b_Model_poke 89 = .ok (.aload_n 0, 1) := by decide +kernel
theorem d_Model_poke_90 : decode b_Model_poke 90 = .ok (.getfield 123, 3) := by decide +kernel
theorem d_Model_poke_93 : decode b_Model_poke 93 = .ok (.putfield 123, 3) := by decide +kernel
theorem d_Model_poke_96 : decode b_Model_poke 96 = .ok (.return_, 1) := by decide +kernel
theorem d_Model_cut_0 : decode b_Model_cut 0 = .ok (.aload_n 0, 1) := by decide +kernel
theorem d_Model_cut_1 : decode b_Model_cut 1 = .ok (.iload_n 1, 1) := by decide +kernel
theorem d_Model_cut_2 : decode b_Model_cut 2 = .ok (.ifCond .lt 11, 3) := by decide +kernel
theorem d_Model_cut_5 : decode b_Model_cut 5 = .ok (.iload_n 1, 1) := by decide +kernel
theorem d_Model_cut_6 : decode b_Model_cut 6 = .ok (.aload_n 0, 1) := by decide +kernel
theorem d_Model_cut_7 : decode b_Model_cut 7 = .ok (.getfield 123, 3) := by decide +kernel
theorem d_Model_cut_10 : decode b_Model_cut 10 = .ok (.if_icmp .le 7, 3) := by decide +kernel
theorem d_Model_cut_13 : decode b_Model_cut 13 = .ok (.iconst 1, 1) := by decide +kernel
theorem d_Model_cut_14 : decode b_Model_cut 14 = .ok (.goto 4, 3) := by decide +kernel
theorem d_Model_cut_17 : decode b_Model_cut 17 = .ok (.iconst 0, 1) := by decide +kernel
theorem d_Model_cut_18 : decode b_Model_cut 18 = .ok (.iconst 0, 1) := by decide +kernel
theorem d_Model_cut_19 : decode b_Model_cut 19 = .ok (.iconst 0, 1) := by decide +kernel
theorem d_Model_cut_20 : decode b_Model_cut 20 = .ok (.invokevirtual 66, 3) := by decide +kernel
theorem d_Model_cut_23 : decode b_Model_cut 23 = .ok (.ifCond .eq 5, 3) := by decide +kernel
theorem d_Model_cut_26 : decode b_Model_cut 26 = .ok (.iconst 0, 1) := by decide +kernel
theorem d_Model_cut_27 : decode b_Model_cut 27 = .ok (.ireturn, 1) := by decide +kernel
theorem d_Model_cut_28 : decode b_Model_cut 28 = .ok (.aload_n 0, 1) := by decide +kernel
theorem d_Model_cut_29 : decode b_Model_cut 29 = .ok (.getfield 123, 3) := by decide +kernel
theorem d_Model_cut_32 : decode b_Model_cut 32 = .ok (.iload_n 1, 1) := by decide +kernel
theorem d_Model_cut_33 : decode b_Model_cut 33 = .ok (.isub, 1) := by decide +kernel
theorem d_Model_cut_34 : decode b_Model_cut 34 = .ok (.istore_n 2, 1) := by decide +kernel
theorem d_Model_cut_35 : decode b_Model_cut 35 = .ok (.aload_n 0, 1) := by decide +kernel
theorem d_Model_cut_36 : decode b_Model_cut 36 = .ok (.iload_n 1, 1) := by decide +kernel
theorem d_Model_cut_37 : decode b_Model_cut 37 = .ok (.putfield 123, 3) := by decide +kernel
theorem d_Model_cut_40 : decode b_Model_cut 40 = .ok (.iload_n 2, 1) := by decide +kernel
theorem d_Model_cut_41 : decode b_Model_cut 41 = .ok (.ireturn, 1) := by decide +kernel
theorem d_Model_byteAt_0 : decode b_Model_byteAt 0 = .ok (.aload_n 0, 1) := by decide +kernel
theorem d_Model_byteAt_1 : decode b_Model_byteAt 1 = .ok (.iload_n 1, 1) := by decide +kernel
theorem d_Model_byteAt_2 : decode b_Model_byteAt 2 = .ok (.ifCond .lt 11, 3) := by decide +kernel
theorem d_Model_byteAt_5 : decode b_Model_byteAt 5 = .ok (.iload_n 1, 1) := by decide +kernel
theorem d_Model_byteAt_6 : decode b_Model_byteAt 6 = .ok (.aload_n 0, 1) := by decide +kernel
theorem d_Model_byteAt_7 : decode b_Model_byteAt 7 = .ok (.getfield 123, 3) := by decide +kernel
theorem d_Model_byteAt_10 : decode b_Model_byteAt 10 = .ok (.if_icmp .lt 7, 3) := by decide +kernel
theorem d_Model_byteAt_13 : decode b_Model_byteAt 13 = .ok (.iconst 1, 1) := by decide +kernel
theorem d_Model_byteAt_14 : decode b_Model_byteAt 14 = .ok (.goto 4, 3) := by decide +kernel
theorem d_Model_byteAt_17 : decode b_Model_byteAt 17 = .ok (.iconst 0, 1) := by decide +kernel
theorem d_Model_byteAt_18 : decode b_Model_byteAt 18 = .ok (.iconst 0, 1) := by decide +kernel
theorem d_Model_byteAt_19 : decode b_Model_byteAt 19 = .ok (.iconst 0, 1) := by decide +kernel
theorem d_Model_byteAt_20 : decode b_Model_byteAt 20 = .ok (.invokevirtual 66, 3) := by decide +kernel
theorem d_Model_byteAt_23 : decode b_Model_byteAt 23 = .ok (.ifCond .eq 7, 3) := by decide +kernel
theorem d_Model_byteAt_26 : decode b_Model_byteAt 26 = .ok (.iconst 0, 1) := by decide +kernel
theorem d_Model_byteAt_27 : decode b_Model_byteAt 27 = .ok (.goto 9, 3) := by decide +kernel
theorem d_Model_byteAt_30 : decode b_Model_byteAt 30 = .ok (.aload_n 0, 1) := by decide +kernel
theorem d_Model_byteAt_31 : decode b_Model_byteAt 31 = .ok (.getfield 35, 3) := by decide +kernel
theorem d_Model_byteAt_34 : decode b_Model_byteAt 34 = .ok (.iload_n 1, 1) := by decide +kernel
theorem d_Model_byteAt_35 : decode b_Model_byteAt 35 = .ok (.iaload, 1) := by decide +kernel
theorem d_Model_byteAt_36 : decode b_Model_byteAt 36 = .ok (.ireturn, 1) := by decide +kernel
theorem d_Model_sum_0 : decode b_Model_sum 0 = .ok (.lconst 0, 1) := by decide +kernel
theorem d_Model_sum_1 : decode b_Model_sum 1 = .ok (.lstore_n 2, 1) := by decide +kernel
theorem d_Model_sum_2 : decode b_Model_sum 2 = .ok (.iconst 0, 1) := by decide +kernel
theorem d_Model_sum_3 : decode b_Model_sum 3 = .ok (.istore 4, 2) := by decide +kernel
theorem d_Model_sum_5 : decode b_Model_sum 5 = .ok (.iload 4, 2) := by decide +kernel
theorem d_Model_sum_7 : decode b_Model_sum 7 = .ok (.iload_n 1, 1) := by decide +kernel
theorem d_Model_sum_8 : decode b_Model_sum 8 = .ok (.if_icmp .gt 19, 3) := by decide +kernel
theorem d_Model_sum_11 : decode b_Model_sum 11 = .ok (.lload_n 2, 1) := by decide +kernel
theorem d_Model_sum_12 : decode b_Model_sum 12 = .ok (.aload_n 0, 1) := by decide +kernel
theorem d_Model_sum_13 : decode b_Model_sum 13 = .ok (.getfield 16, 3) := by decide +kernel
theorem d_Model_sum_16 : decode b_Model_sum 16 = .ok (.iload 4, 2) := by decide +kernel
theorem d_Model_sum_18 : decode b_Model_sum 18 = .ok (.laload, 1) := by decide +kernel
theorem d_Model_sum_19 : decode b_Model_sum 19 = .ok (.ladd, 1) := by decide +kernel
theorem d_Model_sum_20 : decode b_Model_sum 20 = .ok (.lstore_n 2, 1) := by decide +kernel
theorem d_Model_sum_21 : decode b_Model_sum 21 = .ok (.iinc 4 1, 3) := by decide +kernel
theorem d_Model_sum_24 : decode b_Model_sum 24 = .ok (.goto (-19), 3) := by decide +kernel
theorem d_Model_sum_27 : decode b_Model_sum 27 = .ok (.lload_n 2, 1) := by decide +kernel
theorem d_Model_sum_28 : decode b_Model_sum 28 = .ok (.lreturn, 1) := by decide +kernel
theorem d_Model_event_0 : decode b_Model_event 0 = .ok (.aload_n 0, 1) := by decide +kernel
theorem d_Model_event_1 : decode b_Model_event 1 = .ok (.iload_n 1, 1) := by decide +kernel
theorem d_Model_event_2 : decode b_Model_event 2 = .ok (.ifCond .lt 11, 3) := by decide +kernel
theorem d_Model_event_5 : decode b_Model_event 5 = .ok (.iload_n 1, 1) := by decide +kernel
theorem d_Model_event_6 : decode b_Model_event 6 = .ok (.aload_n 0, 1) := by decide +kernel
theorem d_Model_event_7 : decode b_Model_event 7 = .ok (.getfield 63, 3) := by decide +kernel
theorem d_Model_event_10 : decode b_Model_event 10 = .ok (.if_icmp .lt 7, 3) := by decide +kernel
theorem d_Model_event_13 : decode b_Model_event 13 = .ok (.iconst 1, 1) := by decide +kernel
theorem d_Model_event_14 : decode b_Model_event 14 = .ok (.goto 4, 3) := by decide +kernel
theorem d_Model_event_17 : decode b_Model_event 17 = .ok (.iconst 0, 1) := by decide +kernel
theorem d_Model_event_18 : decode b_Model_event 18 = .ok (.iload_n 2, 1) := by decide +kernel
theorem d_Model_event_19 : decode b_Model_event 19 = .ok (.ifCond .lt 8, 3) := by decide +kernel
theorem d_Model_event_22 : decode b_Model_event 22 = .ok (.iload_n 2, 1) := by decide +kernel
theorem d_Model_event_23 : decode b_Model_event 23 = .ok (.iconst 4, 1) := by decide +kernel
theorem d_Model_event_24 : decode b_Model_event 24 = .ok (.if_icmp .le 7, 3) := by decide +kernel
theorem d_Model_event_27 : decode b_Model_event 27 = .ok (.iconst 1, 1) := by decide +kernel
theorem d_Model_event_28 : decode b_Model_event 28 = .ok (.goto 4, 3) := by decide +kernel
theorem d_Model_event_31 : decode b_Model_event 31 = .ok (.iconst 0, 1) := by decide +kernel
theorem d_Model_event_32 : decode b_Model_event 32 = .ok (.iconst 0, 1) := by decide +kernel
theorem d_Model_event_33 : decode b_Model_event 33 = .ok (.invokevirtual 66, 3) := by decide +kernel
theorem d_Model_event_36 : decode b_Model_event 36 = .ok (.ifCond .eq 5, 3) := by decide +kernel
theorem d_Model_event_39 : decode b_Model_event 39 = .ok (.lconst 0, 1) := by decide +kernel
theorem d_Model_event_40 : decode b_Model_event 40 = .ok (.lreturn, 1) := by decide +kernel
theorem d_Model_event_41 : decode b_Model_event 41 = .ok (.iload_n 2, 1) := by decide +kernel
theorem d_Model_event_42 : decode b_Model_event 42 = .ok (.tableswitch 60 0 3 #[30, 38, 45, 52], 30) := by decide +kernel
theorem d_Model_event_72 : decode b_Model_event 72 = .ok (.aload_n 0, 1) := by decide +kernel
theorem d_Model_event_73 : decode b_Model_event 73 = .ok (.getfield 7, 3) := by decide +kernel
theorem d_Model_event_76 : decode b_Model_event 76 = .ok (.iload_n 1, 1) := by decide +kernel
theorem d_Model_event_77 : decode b_Model_event 77 = .ok (.iaload, 1) := by decide +kernel
theorem d_Model_event_78 : decode b_Model_event 78 = .ok (.i2l, 1) := by decide +kernel
theorem d_Model_event_79 : decode b_Model_event 79 = .ok (.lreturn, 1) := by decide +kernel
theorem d_Model_event_80 : decode b_Model_event 80 = .ok (.aload_n 0, 1) := by decide +kernel
theorem d_Model_event_81 : decode b_Model_event 81 = .ok (.getfield 16, 3) := by decide +kernel
theorem d_Model_event_84 : decode b_Model_event 84 = .ok (.iload_n 1, 1) := by decide +kernel
theorem d_Model_event_85 : decode b_Model_event 85 = .ok (.laload, 1) := by decide +kernel
theorem d_Model_event_86 : decode b_Model_event 86 = .ok (.lreturn, 1) := by decide +kernel
theorem d_Model_event_87 : decode b_Model_event 87 = .ok (.aload_n 0, 1) := by decide +kernel
theorem d_Model_event_88 : decode b_Model_event 88 = .ok (.getfield 20, 3) := by decide +kernel
theorem d_Model_event_91 : decode b_Model_event 91 = .ok (.iload_n 1, 1) := by decide +kernel
theorem d_Model_event_92 : decode b_Model_event 92 = .ok (.laload, 1) := by decide +kernel
theorem d_Model_event_93 : decode b_Model_event 93 = .ok (.lreturn, 1) := by decide +kernel
theorem d_Model_event_94 : decode b_Model_event 94 = .ok (.aload_n 0, 1) := by decide +kernel
theorem d_Model_event_95 : decode b_Model_event 95 = .ok (.getfield 13, 3) := by decide +kernel
theorem d_Model_event_98 : decode b_Model_event 98 = .ok (.iload_n 1, 1) := by decide +kernel
theorem d_Model_event_99 : decode b_Model_event 99 = .ok (.iaload, 1) := by decide +kernel
theorem d_Model_event_100 : decode b_Model_event 100 = .ok (.i2l, 1) := by decide +kernel
theorem d_Model_event_101 : decode b_Model_event 101 = .ok (.lreturn, 1) := by decide +kernel
theorem d_Model_event_102 : decode b_Model_event 102 = .ok (.aload_n 0, 1) := by decide +kernel
theorem d_Model_event_103 : decode b_Model_event 103 = .ok (.iload_n 1, 1) := by decide +kernel
theorem d_Model_event_104 : decode b_Model_event 104 = .ok (.invokevirtual 173, 3) := by decide +kernel
theorem d_Model_event_107 : decode b_Model_event 107 = .ok (.lreturn, 1) := by decide +kernel
theorem d_Model_at_0 : decode b_Model_at 0 = .ok (.aload_n 0, 1) := by decide +kernel
theorem d_Model_at_1 : decode b_Model_at 1 = .ok (.iconst 0, 1) := by decide +kernel
theorem d_Model_at_2 : decode b_Model_at 2 = .ok (.putfield 41, 3) := by decide +kernel
theorem d_Model_at_5 : decode b_Model_at 5 = .ok (.aload_n 0, 1) := by decide +kernel
theorem d_Model_at_6 : decode b_Model_at 6 = .ok (.getfield 63, 3) := by decide +kernel
theorem d_Model_at_9 : decode b_Model_at 9 = .ok (.iconst 1, 1) := by decide +kernel
theorem d_Model_at_10 : decode b_Model_at 10 = .ok (.isub, 1) := by decide +kernel
theorem d_Model_at_11 : decode b_Model_at 11 = .ok (.istore_n 3, 1) := by decide +kernel
theorem d_Model_at_12 : decode b_Model_at 12 = .ok (.iload_n 3, 1) := by decide +kernel
theorem d_Model_at_13 : decode b_Model_at 13 = .ok (.ifCond .lt 19, 3) := by decide +kernel
theorem d_Model_at_16 : decode b_Model_at 16 = .ok (.aload_n 0, 1) := by decide +kernel
theorem d_Model_at_17 : decode b_Model_at 17 = .ok (.iload_n 3, 1) := by decide +kernel
theorem d_Model_at_18 : decode b_Model_at 18 = .ok (.invokevirtual 173, 3) := by decide +kernel
theorem d_Model_at_21 : decode b_Model_at 21 = .ok (.lload_n 1, 1) := by decide +kernel
theorem d_Model_at_22 : decode b_Model_at 22 = .ok (.lcmp, 1) := by decide +kernel
theorem d_Model_at_23 : decode b_Model_at 23 = .ok (.ifCond .le 9, 3) := by decide +kernel
theorem d_Model_at_26 : decode b_Model_at 26 = .ok (.iinc 3 (-1), 3) := by decide +kernel
theorem d_Model_at_29 : decode b_Model_at 29 = .ok (.goto (-17), 3) := by decide +kernel
theorem d_Model_at_32 : decode b_Model_at 32 = .ok (.iload_n 3, 1) := by decide +kernel
theorem d_Model_at_33 : decode b_Model_at 33 = .ok (.ireturn, 1) := by decide +kernel
theorem d_Model_count_0 : decode b_Model_count 0 = .ok (.aload_n 0, 1) := by decide +kernel
theorem d_Model_count_1 : decode b_Model_count 1 = .ok (.iconst 0, 1) := by decide +kernel
theorem d_Model_count_2 : decode b_Model_count 2 = .ok (.putfield 41, 3) := by decide +kernel
theorem d_Model_count_5 : decode b_Model_count 5 = .ok (.aload_n 0, 1) := by decide +kernel
theorem d_Model_count_6 : decode b_Model_count 6 = .ok (.invokevirtual 120, 3) := by decide +kernel
theorem d_Model_count_9 : decode b_Model_count 9 = .ok (.iload_n 1, 1) := by decide +kernel
theorem d_Model_count_10 : decode b_Model_count 10 = .ok (.tableswitch 68 0 5 #[38, 43, 48, 53, 58, 63], 38) := by decide +kernel
theorem d_Model_count_48 : decode b_Model_count 48 = .ok (.aload_n 0, 1) := by decide +kernel
theorem d_Model_count_49 : decode b_Model_count 49 = .ok (.getfield 63, 3) := by decide +kernel
theorem d_Model_count_52 : decode b_Model_count 52 = .ok (.ireturn, 1) := by decide +kernel
theorem d_Model_count_53 : decode b_Model_count 53 = .ok (.aload_n 0, 1) := by decide +kernel
theorem d_Model_count_54 : decode b_Model_count 54 = .ok (.getfield 123, 3) := by decide +kernel
theorem d_Model_count_57 : decode b_Model_count 57 = .ok (.ireturn, 1) := by decide +kernel
theorem d_Model_count_58 : decode b_Model_count 58 = .ok (.aload_n 0, 1) := by decide +kernel
theorem d_Model_count_59 : decode b_Model_count 59 = .ok (.getfield 108, 3) := by decide +kernel
theorem d_Model_count_62 : decode b_Model_count 62 = .ok (.ireturn, 1) := by decide +kernel
theorem d_Model_count_63 : decode b_Model_count 63 = .ok (.aload_n 0, 1) := by decide +kernel
theorem d_Model_count_64 : decode b_Model_count 64 = .ok (.getfield 87, 3) := by decide +kernel
theorem d_Model_count_67 : decode b_Model_count 67 = .ok (.ireturn, 1) := by decide +kernel
theorem d_Model_count_68 : decode b_Model_count 68 = .ok (.aload_n 0, 1) := by decide +kernel
theorem d_Model_count_69 : decode b_Model_count 69 = .ok (.getfield 102, 3) := by decide +kernel
theorem d_Model_count_72 : decode b_Model_count 72 = .ok (.ireturn, 1) := by decide +kernel
theorem d_Model_count_73 : decode b_Model_count 73 = .ok (.aload_n 0, 1) := by decide +kernel
theorem d_Model_count_74 : decode b_Model_count 74 = .ok (.getfield 105, 3) := by decide +kernel
theorem d_Model_count_77 : decode b_Model_count 77 = .ok (.ireturn, 1) := by decide +kernel
theorem d_Model_count_78 : decode b_Model_count 78 = .ok (.iconst (-1), 1) := by decide +kernel
theorem d_Model_count_79 : decode b_Model_count 79 = .ok (.ireturn, 1) := by decide +kernel
