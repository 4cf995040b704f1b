theorem d_EventLog_init_0 : decode b_EventLog_init 0 = .ok (.aload_n 0, 1) := by decide +kernel
theorem d_EventLog_init_1 : decode b_EventLog_init 1 = .ok (.invokespecial 1, 3) := by decide +kernel
theorem d_EventLog_init_4 : decode b_EventLog_init 4 = .ok (.aload_n 0, 1) := by decide +kernel
theorem d_EventLog_init_5 : decode b_EventLog_init 5 = .ok (.new 7, 3) := by decide +kernel
theorem d_EventLog_init_8 : decode b_EventLog_init 8 = .ok (.dup, 1) := by decide +kernel
theorem d_EventLog_init_9 : decode b_EventLog_init 9 = .ok (.invokespecial 9, 3) := by decide +kernel
theorem d_EventLog_init_12 : decode b_EventLog_init 12 = .ok (.putfield 10, 3) := by decide +kernel
theorem d_EventLog_init_15 : decode b_EventLog_init 15 = .ok (.aload_n 0, 1) := by decide +kernel
theorem d_EventLog_init_16 : decode b_EventLog_init 16 = .ok (.new 7, 3) := by decide +kernel
theorem d_EventLog_init_19 : decode b_EventLog_init 19 = .ok (.dup, 1) := by decide +kernel
theorem d_EventLog_init_20 : decode b_EventLog_init 20 = .ok (.invokespecial 9, 3) := by decide +kernel
theorem d_EventLog_init_23 : decode b_EventLog_init 23 = .ok (.putfield 16, 3) := by decide +kernel
theorem d_EventLog_init_26 : decode b_EventLog_init 26 = .ok (.new 19, 3) := by decide +kernel
theorem d_EventLog_init_29 : decode b_EventLog_init 29 = .ok (.dup, 1) := by decide +kernel
theorem d_EventLog_init_30 : decode b_EventLog_init 30 = .ok (.invokespecial 21, 3) := by decide +kernel
theorem d_EventLog_init_33 : decode b_EventLog_init 33 = .ok (.astore_n 1, 1) := by decide +kernel
theorem d_EventLog_init_34 : decode b_EventLog_init 34 = .ok (.aload_n 0, 1) := by decide +kernel
theorem d_EventLog_init_35 : decode b_EventLog_init 35 = .ok (.aload_n 1, 1) := by decide +kernel
theorem d_EventLog_init_36 : decode b_EventLog_init 36 = .ok (.putfield 22, 3) := by decide +kernel
theorem d_EventLog_init_39 : decode b_EventLog_init 39 = .ok (.aload_n 0, 1) := by decide +kernel
theorem d_EventLog_init_40 : decode b_EventLog_init 40 = .ok (.new 26, 3) := by decide +kernel
theorem d_EventLog_init_43 : decode b_EventLog_init 43 = .ok (.dup, 1) := by decide +kernel
theorem d_EventLog_init_44 : decode b_EventLog_init 44 = .ok (.aload_n 1, 1) := by decide +kernel
theorem d_EventLog_init_45 : decode b_EventLog_init 45 = .ok (.invokespecial 28, 3) := by decide +kernel
theorem d_EventLog_init_48 : decode b_EventLog_init 48 = .ok (.putfield 31, 3) := by decide +kernel
theorem d_EventLog_init_51 : decode b_EventLog_init 51 = .ok (.aload_n 0, 1) := by decide +kernel
theorem d_EventLog_init_52 : decode b_EventLog_init 52 = .ok (.new 35, 3) := by decide +kernel
theorem d_EventLog_init_55 : decode b_EventLog_init 55 = .ok (.dup, 1) := by decide +kernel
theorem d_EventLog_init_56 : decode b_EventLog_init 56 = .ok (.aload_n 1, 1) := by decide +kernel
theorem d_EventLog_init_57 : decode b_EventLog_init 57 = .ok (.invokespecial 37, 3) := by decide +kernel
theorem d_EventLog_init_60 : decode b_EventLog_init 60 = .ok (.putfield 38, 3) := by decide +kernel
theorem d_EventLog_init_63 : decode b_EventLog_init 63 = .ok (.return_, 1) := by decide +kernel
theorem d_EventLog_add_0 : decode b_EventLog_add 0 = .ok (.iload_n 1, 1) := by decide +kernel
theorem d_EventLog_add_1 : decode b_EventLog_add 1 = .ok (.lload_n 2, 1) := by decide +kernel
theorem d_EventLog_add_2 : decode b_EventLog_add 2 = .ok (.lload 4, 2) := by decide +kernel
theorem d_EventLog_add_4 : decode b_EventLog_add 4 = .ok (.iload 6, 2) := by decide +kernel
theorem d_EventLog_add_6 : decode b_EventLog_add 6 = .ok (.invokestatic 42, 3) := by decide +kernel
theorem d_EventLog_add_9 : decode b_EventLog_add 9 = .ok (.ifCond .ne 13, 3) := by decide +kernel
theorem d_EventLog_add_12 : decode b_EventLog_add 12 = .ok (.new 46, 3) := by decide +kernel
theorem d_EventLog_add_15 : decode b_EventLog_add 15 = .ok (.dup, 1) := by decide +kernel
theorem d_EventLog_add_16 : decode b_EventLog_add 16 = .ok (.ldc 48, 2) := by decide +kernel
theorem d_EventLog_add_18 : decode b_EventLog_add 18 = .ok (.invokespecial 50, 3) := by decide +kernel
theorem d_EventLog_add_21 : decode b_EventLog_add 21 = .ok (.athrow, 1) := by decide +kernel
theorem d_EventLog_add_22 : decode b_EventLog_add 22 = .ok (.aload_n 0, 1) := by decide +kernel
theorem d_EventLog_add_23 : decode b_EventLog_add 23 = .ok (.getfield 10, 3) := by decide +kernel
theorem d_EventLog_add_26 : decode b_EventLog_add 26 = .ok (.invokevirtual 53, 3) := by decide +kernel
theorem d_EventLog_add_29 : decode b_EventLog_add 29 = .ok (.sipush 300, 3) := by decide +kernel
theorem d_EventLog_add_32 : decode b_EventLog_add 32 = .ok (.if_icmp .lt 13, 3) := by decide +kernel
theorem d_EventLog_add_35 : decode b_EventLog_add 35 = .ok (.new 57, 3) := by decide +kernel
theorem d_EventLog_add_38 : decode b_EventLog_add 38 = .ok (.dup, 1) := by decide +kernel
theorem d_EventLog_add_39 : decode b_EventLog_add 39 = .ok (.ldc 59, 2) := by decide +kernel
theorem d_EventLog_add_41 : decode b_EventLog_add 41 = .ok (.invokespecial 61, 3) := by decide +kernel
theorem d_EventLog_add_44 : decode b_EventLog_add 44 = .ok (.athrow, 1) := by decide +kernel
theorem d_EventLog_add_45 : decode b_EventLog_add 45 = .ok (.aload_n 0, 1) := by decide +kernel
theorem d_EventLog_add_46 : decode b_EventLog_add 46 = .ok (.getfield 10, 3) := by decide +kernel
theorem d_EventLog_add_49 : decode b_EventLog_add 49 = .ok (.iload_n 1, 1) := by decide +kernel
theorem d_EventLog_add_50 : decode b_EventLog_add 50 = .ok (.lload_n 2, 1) := by decide +kernel
theorem d_EventLog_add_51 : decode b_EventLog_add 51 = .ok (.iload_n 1, 1) := by decide +kernel
theorem d_EventLog_add_52 : decode b_EventLog_add 52 = .ok (.lload 4, 2) := by decide +kernel
theorem d_EventLog_add_54 : decode b_EventLog_add 54 = .ok (.iload 6, 2) := by decide +kernel
theorem d_EventLog_add_56 : decode b_EventLog_add 56 = .ok (.invokestatic 62, 3) := by decide +kernel
theorem d_EventLog_add_59 : decode b_EventLog_add 59 = .ok (.iload_n 1, 1) := by decide +kernel
theorem d_EventLog_add_60 : decode b_EventLog_add 60 = .ok (.iload 6, 2) := by decide +kernel
theorem d_EventLog_add_62 : decode b_EventLog_add 62 = .ok (.invokestatic 66, 3) := by decide +kernel
theorem d_EventLog_add_65 : decode b_EventLog_add 65 = .ok (.invokevirtual 70, 3) := by decide +kernel
theorem d_EventLog_add_68 : decode b_EventLog_add 68 = .ok (.aload_n 0, 1) := by decide +kernel
theorem d_EventLog_add_69 : decode b_EventLog_add 69 = .ok (.getfield 10, 3) := by decide +kernel
theorem d_EventLog_add_72 : decode b_EventLog_add 72 = .ok (.invokevirtual 53, 3) := by decide +kernel
theorem d_EventLog_add_75 : decode b_EventLog_add 75 = .ok (.ireturn, 1) := by decide +kernel
theorem d_EventLog_drop_0 : decode b_EventLog_drop 0 = .ok (.aload_n 0, 1) := by decide +kernel
theorem d_EventLog_drop_1 : decode b_EventLog_drop 1 = .ok (.getfield 10, 3) := by decide +kernel
theorem d_EventLog_drop_4 : decode b_EventLog_drop 4 = .ok (.invokevirtual 53, 3) := by decide +kernel
theorem d_EventLog_drop_7 : decode b_EventLog_drop 7 = .ok (.istore_n 2, 1) := by decide +kernel
theorem d_EventLog_drop_8 : decode b_EventLog_drop 8 = .ok (.iload_n 1, 1) := by decide +kernel
theorem d_EventLog_drop_9 : decode b_EventLog_drop 9 = .ok (.ifCond .lt 8, 3) := by decide +kernel
theorem d_EventLog_drop_12 : decode b_EventLog_drop 12 = .ok (.iload_n 1, 1) := by decide +kernel
theorem d_EventLog_drop_13 : decode b_EventLog_drop 13 = .ok (.iload_n 2, 1) := by decide +kernel
theorem d_EventLog_drop_14 : decode b_EventLog_drop 14 = .ok (.if_icmp .le 13, 3) := by decide +kernel
theorem d_EventLog_drop_17 : decode b_EventLog_drop 17 = .ok (.new 46, 3) := by decide +kernel
theorem d_EventLog_drop_20 : decode b_EventLog_drop 20 = .ok (.dup, 1) := by decide +kernel
theorem d_EventLog_drop_21 : decode b_EventLog_drop 21 = .ok (.ldc 74, 2) := by decide +kernel
theorem d_EventLog_drop_23 : decode b_EventLog_drop 23 = .ok (.invokespecial 50, 3) := by decide +kernel
theorem d_EventLog_drop_26 : decode b_EventLog_drop 26 = .ok (.athrow, 1) := by decide +kernel
theorem d_EventLog_drop_27 : decode b_EventLog_drop 27 = .ok (.aload_n 0, 1) := by decide +kernel
theorem d_EventLog_drop_28 : decode b_EventLog_drop 28 = .ok (.getfield 10, 3) := by decide +kernel
theorem d_EventLog_drop_31 : decode b_EventLog_drop 31 = .ok (.iload_n 1, 1) := by decide +kernel
theorem d_EventLog_drop_32 : decode b_EventLog_drop 32 = .ok (.invokevirtual 76, 3) := by decide +kernel
theorem d_EventLog_drop_35 : decode b_EventLog_drop 35 = .ok (.iload_n 2, 1) := by decide +kernel
theorem d_EventLog_drop_36 : decode b_EventLog_drop 36 = .ok (.iload_n 1, 1) := by decide +kernel
theorem d_EventLog_drop_37 : decode b_EventLog_drop 37 = .ok (.isub, 1) := by decide +kernel
theorem d_EventLog_drop_38 : decode b_EventLog_drop 38 = .ok (.ireturn, 1) := by decide +kernel
theorem d_EventLog_pack_0 : decode b_EventLog_pack 0 = .ok (.aload_n 0, 1) := by decide +kernel
theorem d_EventLog_pack_1 : decode b_EventLog_pack 1 = .ok (.getfield 31, 3) := by decide +kernel
theorem d_EventLog_pack_4 : decode b_EventLog_pack 4 = .ok (.aload_n 0, 1) := by decide +kernel
theorem d_EventLog_pack_5 : decode b_EventLog_pack 5 = .ok (.getfield 10, 3) := by decide +kernel
theorem d_EventLog_pack_8 : decode b_EventLog_pack 8 = .ok (.iconst 1, 1) := by decide +kernel
theorem d_EventLog_pack_9 : decode b_EventLog_pack 9 = .ok (.invokevirtual 80, 3) := by decide +kernel
theorem d_EventLog_pack_12 : decode b_EventLog_pack 12 = .ok (.aload_n 0, 1) := by decide +kernel
theorem d_EventLog_pack_13 : decode b_EventLog_pack 13 = .ok (.getfield 31, 3) := by decide +kernel
theorem d_EventLog_pack_16 : decode b_EventLog_pack 16 = .ok (.invokevirtual 84, 3) := by decide +kernel
theorem d_EventLog_pack_19 : decode b_EventLog_pack 19 = .ok (.ireturn, 1) := by decide +kernel
theorem d_EventLog_size_0 : decode b_EventLog_size 0 = .ok (.aload_n 0, 1) := by decide +kernel
theorem d_EventLog_size_1 : decode b_EventLog_size 1 = .ok (.getfield 31, 3) := by decide +kernel
theorem d_EventLog_size_4 : decode b_EventLog_size 4 = .ok (.aload_n 0, 1) := by decide +kernel
theorem d_EventLog_size_5 : decode b_EventLog_size 5 = .ok (.getfield 10, 3) := by decide +kernel
theorem d_EventLog_size_8 : decode b_EventLog_size 8 = .ok (.iconst 0, 1) := by decide +kernel
theorem d_EventLog_size_9 : decode b_EventLog_size 9 = .ok (.invokevirtual 80, 3) := by decide +kernel
theorem d_EventLog_size_12 : decode b_EventLog_size 12 = .ok (.aload_n 0, 1) := by decide +kernel
theorem d_EventLog_size_13 : decode b_EventLog_size 13 = .ok (.getfield 31, 3) := by decide +kernel
theorem d_EventLog_size_16 : decode b_EventLog_size 16 = .ok (.invokevirtual 84, 3) := by decide +kernel
theorem d_EventLog_size_19 : decode b_EventLog_size 19 = .ok (.ireturn, 1) := by decide +kernel
theorem d_EventLog_read_0 : decode b_EventLog_read 0 = .ok (.aload_n 0, 1) := by decide +kernel
theorem d_EventLog_read_1 : decode b_EventLog_read 1 = .ok (.getfield 38, 3) := by decide +kernel
theorem d_EventLog_read_4 : decode b_EventLog_read 4 = .ok (.aload_n 0, 1) := by decide +kernel
theorem d_EventLog_read_5 : decode b_EventLog_read 5 = .ok (.getfield 16, 3) := by decide +kernel
theorem d_EventLog_read_8 : decode b_EventLog_read 8 = .ok (.invokevirtual 87, 3) := by decide +kernel
theorem d_EventLog_read_11 : decode b_EventLog_read 11 = .ok (.istore_n 1, 1) := by decide +kernel
theorem d_EventLog_read_12 : decode b_EventLog_read 12 = .ok (.iload_n 1, 1) := by decide +kernel
theorem d_EventLog_read_13 : decode b_EventLog_read 13 = .ok (.ifCond .lt 21, 3) := by decide +kernel
theorem d_EventLog_read_16 : decode b_EventLog_read 16 = .ok (.aload_n 0, 1) := by decide +kernel
theorem d_EventLog_read_17 : decode b_EventLog_read 17 = .ok (.getfield 10, 3) := by decide +kernel
theorem d_EventLog_read_20 : decode b_EventLog_read 20 = .ok (.astore_n 2, 1) := by decide +kernel
theorem d_EventLog_read_21 : decode b_EventLog_read 21 = .ok (.aload_n 0, 1) := by decide +kernel
theorem d_EventLog_read_22 : decode b_EventLog_read 22 = .ok (.aload_n 0, 1) := by decide +kernel
theorem d_EventLog_read_23 : decode b_EventLog_read 23 = .ok (.getfield 16, 3) := by decide +kernel
theorem d_EventLog_read_26 : decode b_EventLog_read 26 = .ok (.putfield 10, 3) := by decide +kernel
theorem d_EventLog_read_29 : decode b_EventLog_read 29 = .ok (.aload_n 0, 1) := by decide +kernel
theorem d_EventLog_read_30 : decode b_EventLog_read 30 = .ok (.aload_n 2, 1) := by decide +kernel
theorem d_EventLog_read_31 : decode b_EventLog_read 31 = .ok (.putfield 16, 3) := by decide +kernel
theorem d_EventLog_read_34 : decode b_EventLog_read 34 = .ok (.iload_n 1, 1) := by decide +kernel
theorem d_EventLog_read_35 : decode b_EventLog_read 35 = .ok (.ireturn, 1) := by decide +kernel
theorem d_EventLog_poke_0 : decode b_EventLog_poke 0 = .ok (.iload_n 2, 1) := by decide +kernel
theorem d_EventLog_poke_1 : decode b_EventLog_poke 1 = .ok (.ifCond .lt 10, 3) := by decide +kernel
theorem d_EventLog_poke_4 : decode b_EventLog_poke 4 = .ok (.iload_n 2, 1) := by decide +kernel
theorem d_EventLog_poke_5 : decode b_EventLog_poke 5 = .ok (.sipush 255, 3) := by decide +kernel
theorem d_EventLog_poke_8 : decode b_EventLog_poke 8 = .ok (.if_icmp .le 13, 3) := by decide +kernel
theorem d_EventLog_poke_11 : decode b_EventLog_poke 11 = .ok (.new 46, 3) := by decide +kernel
theorem d_EventLog_poke_14 : decode b_EventLog_poke 14 = .ok (.dup, 1) := by decide +kernel
theorem d_EventLog_poke_15 : decode b_EventLog_poke 15 = .ok (.ldc 90, 2) := by decide +kernel
theorem d_EventLog_poke_17 : decode b_EventLog_poke 17 = .ok (.invokespecial 50, 3) := by decide +kernel
theorem d_EventLog_poke_20 : decode b_EventLog_poke 20 = .ok (.athrow, 1) := by decide +kernel
theorem d_EventLog_poke_21 : decode b_EventLog_poke 21 = .ok (.iload_n 1, 1) := by decide +kernel
theorem d_EventLog_poke_22 : decode b_EventLog_poke 22 = .ok (.ifCond .lt 14, 3) := by decide +kernel
theorem d_EventLog_poke_25 : decode b_EventLog_poke 25 = .ok (.iload_n 1, 1) := by decide +kernel
theorem d_EventLog_poke_26 : decode b_EventLog_poke 26 = .ok (.aload_n 0, 1) := by decide +kernel
theorem d_EventLog_poke_27 : decode b_EventLog_poke 27 = .ok (.getfield 22, 3) := by decide +kernel
theorem d_EventLog_poke_30 : decode b_EventLog_poke 30 = .ok (.invokevirtual 92, 3) := by decide +kernel
theorem d_EventLog_poke_33 : decode b_EventLog_poke 33 = .ok (.if_icmp .le 13, 3) := by decide +kernel
theorem d_EventLog_poke_36 : decode b_EventLog_poke 36 = .ok (.new 95, 3) := by decide +kernel
theorem d_EventLog_poke_39 : decode b_EventLog_poke 39 = .ok (.dup, 1) := by decide +kernel
theorem d_EventLog_poke_40 : decode b_EventLog_poke 40 = .ok (.ldc 97, 2) := by decide +kernel
theorem d_EventLog_poke_42 : decode b_EventLog_poke 42 = .ok (.invokespecial 99, 3) := by decide +kernel
theorem d_EventLog_poke_45 : decode b_EventLog_poke 45 = .ok (.athrow, 1) := by decide +kernel
theorem d_EventLog_poke_46 : decode b_EventLog_poke 46 = .ok (.iload_n 1, 1) := by decide +kernel
theorem d_EventLog_poke_47 : decode b_EventLog_poke 47 = .ok (.sipush 5000, 3) := by decide +kernel
theorem d_EventLog_poke_50 : decode b_EventLog_poke 50 = .ok (.if_icmp .lt 13, 3) := by decide +kernel
theorem d_EventLog_poke_53 : decode b_EventLog_poke 53 = .ok (.new 57, 3) := by decide +kernel
theorem d_EventLog_poke_56 : decode b_EventLog_poke 56 = .ok (.dup, 1) := by decide +kernel
theorem d_EventLog_poke_57 : decode b_EventLog_poke 57 = .ok (.ldc 100, 2) := by decide +kernel
theorem d_EventLog_poke_59 : decode b_EventLog_poke 59 = .ok (.invokespecial 61, 3) := by decide +kernel
theorem d_EventLog_poke_62 : decode b_EventLog_poke 62 = .ok (.athrow, 1) := by decide +kernel
theorem d_EventLog_poke_63 : decode b_EventLog_poke 63 = .ok (.iload_n 1, 1) := by decide +kernel
theorem d_EventLog_poke_64 : decode b_EventLog_poke 64 = .ok (.aload_n 0, 1) := by decide +kernel
theorem d_EventLog_poke_65 : decode b_EventLog_poke 65 = .ok (.getfield 22, 3) := by decide +kernel
theorem d_EventLog_poke_68 : decode b_EventLog_poke 68 = .ok (.invokevirtual 92, 3) := by decide +kernel
theorem d_EventLog_poke_71 : decode b_EventLog_poke 71 = .ok (.if_icmp .ne 14, 3) := by decide +kernel
theorem d_EventLog_poke_74 : decode b_EventLog_poke 74 = .ok (.aload_n 0, 1) := by decide +kernel
theorem d_EventLog_poke_75 : decode b_EventLog_poke 75 = .ok (.getfield 22, 3) := by decide +kernel
theorem d_EventLog_poke_78 : decode b_EventLog_poke 78 = .ok (.iload_n 2, 1) := by decide +kernel
theorem d_EventLog_poke_79 : decode b_EventLog_poke 79 = .ok (.invokevirtual 102, 3) := by decide +kernel
theorem d_EventLog_poke_82 : decode b_EventLog_poke 82 = .ok (.goto 12, 3) := by decide +kernel
theorem d_EventLog_poke_85 : decode b_EventLog_poke 85 = .ok (.aload_n 0, 1) := by decide +kernel
theorem d_EventLog_poke_86 : decode b_EventLog_poke 86 = .ok (.getfield 22, 3) := by decide +kernel
theorem d_EventLog_poke_89 : decode b_EventLog_poke 89 = .ok (.iload_n 1, 1) := by decide +kernel
theorem d_EventLog_poke_90 : decode b_EventLog_poke 90 = .ok (.iload_n 2, 1) := by decide +kernel
theorem d_EventLog_poke_91 : decode b_EventLog_poke 91 = .ok (.invokevirtual 104, 3) := by decide +kernel
theorem d_EventLog_poke_94 : decode b_EventLog_poke 94 = .ok (.return_, 1) := by decide +kernel
theorem d_EventLog_cut_0 : decode b_EventLog_cut 0 = .ok (.aload_n 0, 1) := by decide +kernel
theorem d_EventLog_cut_1 : decode b_EventLog_cut 1 = .ok (.getfield 22, 3) := by decide +kernel
theorem d_EventLog_cut_4 : decode b_EventLog_cut 4 = .ok (.invokevirtual 92, 3) := by decide +kernel
theorem d_EventLog_cut_7 : decode b_EventLog_cut 7 = .ok (.istore_n 2, 1) := by decide +kernel
theorem d_EventLog_cut_8 : decode b_EventLog_cut 8 = .ok (.iload_n 1, 1) := by decide +kernel
theorem d_EventLog_cut_9 : decode b_EventLog_cut 9 = .ok (.ifCond .lt 8, 3) := by decide +kernel
theorem d_EventLog_cut_12 : decode b_EventLog_cut 12 = .ok (.iload_n 1, 1) := by decide +kernel
theorem d_EventLog_cut_13 : decode b_EventLog_cut 13 = .ok (.iload_n 2, 1) := by decide +kernel
theorem d_EventLog_cut_14 : decode b_EventLog_cut 14 = .ok (.if_icmp .le 13, 3) := by decide +kernel
theorem d_EventLog_cut_17 : decode b_EventLog_cut 17 = .ok (.new 95, 3) := by decide +kernel
theorem d_EventLog_cut_20 : decode b_EventLog_cut 20 = .ok (.dup, 1) := by decide +kernel
theorem d_EventLog_cut_21 : decode b_EventLog_cut 21 = .ok (.ldc 108, 2) := by decide +kernel
theorem d_EventLog_cut_23 : decode b_EventLog_cut 23 = .ok (.invokespecial 99, 3) := by decide +kernel
theorem d_EventLog_cut_26 : decode b_EventLog_cut 26 = .ok (.athrow, 1) := by decide +kernel
theorem d_EventLog_cut_27 : decode b_EventLog_cut 27 = .ok (.aload_n 0, 1) := by decide +kernel
theorem d_EventLog_cut_28 : decode b_EventLog_cut 28 = .ok (.getfield 22, 3) := by decide +kernel
theorem d_EventLog_cut_31 : decode b_EventLog_cut 31 = .ok (.iload_n 1, 1) := by decide +kernel
theorem d_EventLog_cut_32 : decode b_EventLog_cut 32 = .ok (.invokevirtual 110, 3) := by decide +kernel
theorem d_EventLog_cut_35 : decode b_EventLog_cut 35 = .ok (.iload_n 2, 1) := by decide +kernel
theorem d_EventLog_cut_36 : decode b_EventLog_cut 36 = .ok (.iload_n 1, 1) := by decide +kernel
theorem d_EventLog_cut_37 : decode b_EventLog_cut 37 = .ok (.isub, 1) := by decide +kernel
theorem d_EventLog_cut_38 : decode b_EventLog_cut 38 = .ok (.ireturn, 1) := by decide +kernel
theorem d_EventLog_byteAt_0 : decode b_EventLog_byteAt 0 = .ok (.iload_n 1, 1) := by decide +kernel
theorem d_EventLog_byteAt_1 : decode b_EventLog_byteAt 1 = .ok (.ifCond .lt 14, 3) := by decide +kernel
theorem d_EventLog_byteAt_4 : decode b_EventLog_byteAt 4 = .ok (.iload_n 1, 1) := by decide +kernel
theorem d_EventLog_byteAt_5 : decode b_EventLog_byteAt 5 = .ok (.aload_n 0, 1) := by decide +kernel
theorem d_EventLog_byteAt_6 : decode b_EventLog_byteAt 6 = .ok (.getfield 22, 3) := by decide +kernel
theorem d_EventLog_byteAt_9 : decode b_EventLog_byteAt 9 = .ok (.invokevirtual 92, 3) := by decide +kernel
theorem d_EventLog_byteAt_12 : decode b_EventLog_byteAt 12 = .ok (.if_icmp .lt 13, 3) := by decide +kernel
theorem d_EventLog_byteAt_15 : decode b_EventLog_byteAt 15 = .ok (.new 95, 3) := by decide +kernel
theorem d_EventLog_byteAt_18 : decode b_EventLog_byteAt 18 = .ok (.dup, 1) := by decide +kernel
theorem d_EventLog_byteAt_19 : decode b_EventLog_byteAt 19 = .ok (.ldc 111, 2) := by decide +kernel
theorem d_EventLog_byteAt_21 : decode b_EventLog_byteAt 21 = .ok (.invokespecial 99, 3) := by decide +kernel
theorem d_EventLog_byteAt_24 : decode b_EventLog_byteAt 24 = .ok (.athrow, 1) := by decide +kernel
theorem d_EventLog_byteAt_25 : decode b_EventLog_byteAt 25 = .ok (.aload_n 0, 1) := by decide +kernel
theorem d_EventLog_byteAt_26 : decode b_EventLog_byteAt 26 = .ok (.getfield 22, 3) := by decide +kernel
theorem d_EventLog_byteAt_29 : decode b_EventLog_byteAt 29 = .ok (.iload_n 1, 1) := by decide +kernel
theorem d_EventLog_byteAt_30 : decode b_EventLog_byteAt 30 = .ok (.invokevirtual 113, 3) := by decide +kernel
theorem d_EventLog_byteAt_33 : decode b_EventLog_byteAt 33 = .ok (.ireturn, 1) := by decide +kernel
theorem d_EventLog_event_0 : decode b_EventLog_event 0 = .ok (.aload_n 0, 1) := by decide +kernel
theorem d_EventLog_event_1 : decode b_EventLog_event 1 = .ok (.getfield 10, 3) := by decide +kernel
theorem d_EventLog_event_4 : decode b_EventLog_event 4 = .ok (.iload_n 1, 1) := by decide +kernel
theorem d_EventLog_event_5 : decode b_EventLog_event 5 = .ok (.invokevirtual 117, 3) := by decide +kernel
theorem d_EventLog_event_8 : decode b_EventLog_event 8 = .ok (.ifCond .ne 13, 3) := by decide +kernel
theorem d_EventLog_event_11 : decode b_EventLog_event 11 = .ok (.new 121, 3) := by decide +kernel
theorem d_EventLog_event_14 : decode b_EventLog_event 14 = .ok (.dup, 1) := by decide +kernel
theorem d_EventLog_event_15 : decode b_EventLog_event 15 = .ok (.ldc 123, 2) := by decide +kernel
theorem d_EventLog_event_17 : decode b_EventLog_event 17 = .ok (.invokespecial 125, 3) := by decide +kernel
theorem d_EventLog_event_20 : decode b_EventLog_event 20 = .ok (.athrow, 1) := by decide +kernel
theorem d_EventLog_event_21 : decode b_EventLog_event 21 = .ok (.iload_n 2, 1) := by decide +kernel
theorem d_EventLog_event_22 : decode b_EventLog_event 22 = .ok (.tableswitch 81 0 4 #[34, 44, 53, 62, 72], 34) := by decide +kernel
theorem d_EventLog_event_56 : decode b_EventLog_event 56 = .ok (.aload_n 0, 1) := by decide +kernel
theorem d_EventLog_event_57 : decode b_EventLog_event 57 = .ok (.getfield 10, 3) := by decide +kernel
theorem d_EventLog_event_60 : decode b_EventLog_event 60 = .ok (.iload_n 1, 1) := by decide +kernel
theorem d_EventLog_event_61 : decode b_EventLog_event 61 = .ok (.invokevirtual 126, 3) := by decide +kernel
theorem d_EventLog_event_64 : decode b_EventLog_event 64 = .ok (.i2l, 1) := by decide +kernel
theorem d_EventLog_event_65 : decode b_EventLog_event 65 = .ok (.lreturn, 1) := by decide +kernel
theorem d_EventLog_event_66 : decode b_EventLog_event 66 = .ok (.aload_n 0, 1) := by decide +kernel
theorem d_EventLog_event_67 : decode b_EventLog_event 67 = .ok (.getfield 10, 3) := by decide +kernel
theorem d_EventLog_event_70 : decode b_EventLog_event 70 = .ok (.iload_n 1, 1) := by decide +kernel
theorem d_EventLog_event_71 : decode b_EventLog_event 71 = .ok (.invokevirtual 129, 3) := by decide +kernel
theorem d_EventLog_event_74 : decode b_EventLog_event 74 = .ok (.lreturn, 1) := by decide +kernel
theorem d_EventLog_event_75 : decode b_EventLog_event 75 = .ok (.aload_n 0, 1) := by decide +kernel
theorem d_EventLog_event_76 : decode b_EventLog_event 76 = .ok (.getfield 10, 3) := by decide +kernel
theorem d_EventLog_event_79 : decode b_EventLog_event 79 = .ok (.iload_n 1, 1) := by decide +kernel
theorem d_EventLog_event_80 : decode b_EventLog_event 80 = .ok (.invokevirtual 133, 3) := by decide +kernel
theorem d_EventLog_event_83 : decode b_EventLog_event 83 = .ok (.lreturn, 1) := by decide +kernel
theorem d_EventLog_event_84 : decode b_EventLog_event 84 = .ok (.aload_n 0, 1) := by decide +kernel
theorem d_EventLog_event_85 : decode b_EventLog_event 85 = .ok (.getfield 10, 3) := by decide +kernel
theorem d_EventLog_event_88 : decode b_EventLog_event 88 = .ok (.iload_n 1, 1) := by decide +kernel
theorem d_EventLog_event_89 : decode b_EventLog_event 89 = .ok (.invokevirtual 136, 3) := by decide +kernel
theorem d_EventLog_event_92 : decode b_EventLog_event 92 = .ok (.i2l, 1) := by decide +kernel
theorem d_EventLog_event_93 : decode b_EventLog_event 93 = .ok (.lreturn, 1) := by decide +kernel
theorem d_EventLog_event_94 : decode b_EventLog_event 94 = .ok (.aload_n 0, 1) := by decide +kernel
theorem d_EventLog_event_95 : decode b_EventLog_event 95 = .ok (.getfield 10, 3) := by decide +kernel
theorem d_EventLog_event_98 : decode b_EventLog_event 98 = .ok (.iload_n 1, 1) := by decide +kernel
theorem d_EventLog_event_99 : decode b_EventLog_event 99 = .ok (.invokevirtual 139, 3) := by decide +kernel
theorem d_EventLog_event_102 : decode b_EventLog_event 102 = .ok (.lreturn, 1) := by decide +kernel
theorem d_EventLog_event_103 : decode b_EventLog_event 103 = .ok (.new 46, 3) := by decide +kernel
theorem d_EventLog_event_106 : decode b_EventLog_event 106 = .ok (.dup, 1) := by decide +kernel
theorem d_EventLog_event_107 : decode b_EventLog_event 107 = .ok (.ldc 142, 2) := by decide +kernel
theorem d_EventLog_event_109 : decode b_EventLog_event 109 = .ok (.invokespecial 50, 3) := by decide +kernel
theorem d_EventLog_event_112 : decode b_EventLog_event 112 = .ok (.athrow, 1) := by decide +kernel
theorem d_EventLog_at_0 : decode b_EventLog_at 0 = .ok (.aload_n 0, 1) := by decide +kernel
theorem d_EventLog_at_1 : decode b_EventLog_at 1 = .ok (.getfield 10, 3) := by decide +kernel
theorem d_EventLog_at_4 : decode b_EventLog_at 4 = .ok (.lload_n 1, 1) := by decide +kernel
theorem d_EventLog_at_5 : decode b_EventLog_at 5 = .ok (.invokevirtual 144, 3) := by decide +kernel
theorem d_EventLog_at_8 : decode b_EventLog_at 8 = .ok (.ireturn, 1) := by decide +kernel
theorem d_EventLog_count_0 : decode b_EventLog_count 0 = .ok (.iload_n 1, 1) := by decide +kernel
theorem d_EventLog_count_1 : decode b_EventLog_count 1 = .ok (.ifCond .ne 11, 3) := by decide +kernel
theorem d_EventLog_count_4 : decode b_EventLog_count 4 = .ok (.aload_n 0, 1) := by decide +kernel
theorem d_EventLog_count_5 : decode b_EventLog_count 5 = .ok (.getfield 10, 3) := by decide +kernel
theorem d_EventLog_count_8 : decode b_EventLog_count 8 = .ok (.invokevirtual 53, 3) := by decide +kernel
theorem d_EventLog_count_11 : decode b_EventLog_count 11 = .ok (.ireturn, 1) := by decide +kernel
theorem d_EventLog_count_12 : decode b_EventLog_count 12 = .ok (.iload_n 1, 1) := by decide +kernel
theorem d_EventLog_count_13 : decode b_EventLog_count 13 = .ok (.iconst 1, 1) := by decide +kernel
theorem d_EventLog_count_14 : decode b_EventLog_count 14 = .ok (.if_icmp .ne 11, 3) := by decide +kernel
theorem d_EventLog_count_17 : decode b_EventLog_count 17 = .ok (.aload_n 0, 1) := by decide +kernel
theorem d_EventLog_count_18 : decode b_EventLog_count 18 = .ok (.getfield 22, 3) := by decide +kernel
theorem d_EventLog_count_21 : decode b_EventLog_count 21 = .ok (.invokevirtual 92, 3) := by decide +kernel
theorem d_EventLog_count_24 : decode b_EventLog_count 24 = .ok (.ireturn, 1) := by decide +kernel
theorem d_EventLog_count_25 : decode b_EventLog_count 25 = .ok (.aload_n 0, 1) := by decide +kernel
theorem d_EventLog_count_26 : decode b_EventLog_count 26 = .ok (.getfield 31, 3) := by decide +kernel
theorem d_EventLog_count_29 : decode b_EventLog_count 29 = .ok (.aload_n 0, 1) := by decide +kernel
theorem d_EventLog_count_30 : decode b_EventLog_count 30 = .ok (.getfield 10, 3) := by decide +kernel
theorem d_EventLog_count_33 : decode b_EventLog_count 33 = .ok (.iconst 0, 1) := by decide +kernel
theorem d_EventLog_count_34 : decode b_EventLog_count 34 = .ok (.invokevirtual 80, 3) := by decide +kernel
theorem d_EventLog_count_37 : decode b_EventLog_count 37 = .ok (.iload_n 1, 1) := by decide +kernel
theorem d_EventLog_count_38 : decode b_EventLog_count 38 = .ok (.tableswitch 62 2 5 #[30, 38, 46, 54], 30) := by decide +kernel
theorem d_EventLog_count_68 : decode b_EventLog_count 68 = .ok (.aload_n 0, 1) := by decide +kernel
theorem d_EventLog_count_69 : decode b_EventLog_count 69 = .ok (.getfield 31, 3) := by decide +kernel
theorem d_EventLog_count_72 : decode b_EventLog_count 72 = .ok (.invokevirtual 148, 3) := by decide +kernel
theorem d_EventLog_count_75 : decode b_EventLog_count 75 = .ok (.ireturn, 1) := by decide +kernel
theorem d_EventLog_count_76 : decode b_EventLog_count 76 = .ok (.aload_n 0, 1) := by decide +kernel
theorem d_EventLog_count_77 : decode b_EventLog_count 77 = .ok (.getfield 31, 3) := by decide +kernel
theorem d_EventLog_count_80 : decode b_EventLog_count 80 = .ok (.invokevirtual 151, 3) := by decide +kernel
theorem d_EventLog_count_83 : decode b_EventLog_count 83 = .ok (.ireturn, 1) := by decide +kernel
theorem d_EventLog_count_84 : decode b_EventLog_count 84 = .ok (.aload_n 0, 1) := by decide +kernel
theorem d_EventLog_count_85 : decode b_EventLog_count 85 = .ok (.getfield 31, 3) := by decide +kernel
theorem d_EventLog_count_88 : decode b_EventLog_count 88 = .ok (.invokevirtual 154, 3) := by decide +kernel
theorem d_EventLog_count_91 : decode b_EventLog_count 91 = .ok (.ireturn, 1) := by decide +kernel
theorem d_EventLog_count_92 : decode b_EventLog_count 92 = .ok (.aload_n 0, 1) := by decide +kernel
theorem d_EventLog_count_93 : decode b_EventLog_count 93 = .ok (.getfield 31, 3) := by decide +kernel
theorem d_EventLog_count_96 : decode b_EventLog_count 96 = .ok (.invokevirtual 157, 3) := by decide +kernel
theorem d_EventLog_count_99 : decode b_EventLog_count 99 = .ok (.ireturn, 1) := by decide +kernel
theorem d_EventLog_count_100 : decode b_EventLog_count 100 = .ok (.iconst (-1), 1) := by decide +kernel
theorem d_EventLog_count_101 : decode b_EventLog_count 101 = .ok (.ireturn, 1) := by decide +kernel
theorem d_EventLog_isEvent_0 : decode b_EventLog_isEvent 0 = .ok (.lload_n 1, 1) := by decide +kernel
theorem d_EventLog_isEvent_1 : decode b_EventLog_isEvent 1 = .ok (.lconst 0, 1) := by decide +kernel
theorem d_EventLog_isEvent_2 : decode b_EventLog_isEvent 2 = .ok (.lcmp, 1) := by decide +kernel
theorem d_EventLog_isEvent_3 : decode b_EventLog_isEvent 3 = .ok (.ifCond .lt 11, 3) := by decide +kernel
theorem d_EventLog_isEvent_6 : decode b_EventLog_isEvent 6 = .ok (.lload_n 1, 1) := by decide +kernel
theorem d_EventLog_isEvent_7 : decode b_EventLog_isEvent 7 = .ok (.ldc2_w 160, 3) := by decide +kernel
theorem d_EventLog_isEvent_10 : decode b_EventLog_isEvent 10 = .ok (.lcmp, 1) := by decide +kernel
theorem d_EventLog_isEvent_11 : decode b_EventLog_isEvent 11 = .ok (.ifCond .le 5, 3) := by decide +kernel
theorem d_EventLog_isEvent_14 : decode b_EventLog_isEvent 14 = .ok (.iconst 0, 1) := by decide +kernel
theorem d_EventLog_isEvent_15 : decode b_EventLog_isEvent 15 = .ok (.ireturn, 1) := by decide +kernel
theorem d_EventLog_isEvent_16 : decode b_EventLog_isEvent 16 = .ok (.iload_n 0, 1) := by decide +kernel
theorem d_EventLog_isEvent_17 : decode b_EventLog_isEvent 17 = .ok (.tableswitch 102 0 4 #[35, 40, 59, 80, 100], 35) := by decide +kernel
theorem d_EventLog_isEvent_52 : decode b_EventLog_isEvent 52 = .ok (.lload_n 3, 1) := by decide +kernel
theorem d_EventLog_isEvent_53 : decode b_EventLog_isEvent 53 = .ok (.invokestatic 162, 3) := by decide +kernel
theorem d_EventLog_isEvent_56 : decode b_EventLog_isEvent 56 = .ok (.ireturn, 1) := by decide +kernel
theorem d_EventLog_isEvent_57 : decode b_EventLog_isEvent 57 = .ok (.iload 5, 2) := by decide +kernel
theorem d_EventLog_isEvent_59 : decode b_EventLog_isEvent 59 = .ok (.iconst 1, 1) := by decide +kernel
theorem d_EventLog_isEvent_60 : decode b_EventLog_isEvent 60 = .ok (.if_icmp .lt 14, 3) := by decide +kernel
theorem d_EventLog_isEvent_63 : decode b_EventLog_isEvent 63 = .ok (.iload 5, 2) := by decide +kernel
theorem d_EventLog_isEvent_65 : decode b_EventLog_isEvent 65 = .ok (.bipush 8, 2) := by decide +kernel
theorem d_EventLog_isEvent_67 : decode b_EventLog_isEvent 67 = .ok (.if_icmp .gt 7, 3) := by decide +kernel
theorem d_EventLog_isEvent_70 : decode b_EventLog_isEvent 70 = .ok (.iconst 1, 1) := by decide +kernel
theorem d_EventLog_isEvent_71 : decode b_EventLog_isEvent 71 = .ok (.goto 4, 3) := by decide +kernel
theorem d_EventLog_isEvent_74 : decode b_EventLog_isEvent 74 = .ok (.iconst 0, 1) := by decide +kernel
theorem d_EventLog_isEvent_75 : decode b_EventLog_isEvent 75 = .ok (.ireturn, 1) := by decide +kernel
theorem d_EventLog_isEvent_76 : decode b_EventLog_isEvent 76 = .ok (.lload_n 3, 1) := by decide +kernel
theorem d_EventLog_isEvent_77 : decode b_EventLog_isEvent 77 = .ok (.invokestatic 162, 3) := by decide +kernel
theorem d_EventLog_isEvent_80 : decode b_EventLog_isEvent 80 = .ok (.ifCond .eq 15, 3) := by decide +kernel
theorem d_EventLog_isEvent_83 : decode b_EventLog_isEvent 83 = .ok (.iload 5, 2) := by decide +kernel
theorem d_EventLog_isEvent_85 : decode b_EventLog_isEvent 85 = .ok (.invokestatic 166, 3) := by decide +kernel
theorem d_EventLog_isEvent_88 : decode b_EventLog_isEvent 88 = .ok (.ifCond .eq 7, 3) := by decide +kernel
theorem d_EventLog_isEvent_91 : decode b_EventLog_isEvent 91 = .ok (.iconst 1, 1) := by decide +kernel
theorem d_EventLog_isEvent_92 : decode b_EventLog_isEvent 92 = .ok (.goto 4, 3) := by decide +kernel
theorem d_EventLog_isEvent_95 : decode b_EventLog_isEvent 95 = .ok (.iconst 0, 1) := by decide +kernel
theorem d_EventLog_isEvent_96 : decode b_EventLog_isEvent 96 = .ok (.ireturn, 1) := by decide +kernel
theorem d_EventLog_isEvent_97 : decode b_EventLog_isEvent 97 = .ok (.lload_n 3, 1) := by decide +kernel
theorem d_EventLog_isEvent_98 : decode b_EventLog_isEvent 98 = .ok (.lconst 0, 1) := by decide +kernel
theorem d_EventLog_isEvent_99 : decode b_EventLog_isEvent 99 = .ok (.lcmp, 1) := by decide +kernel
theorem d_EventLog_isEvent_100 : decode b_EventLog_isEvent 100 = .ok (.ifCond .lt 15, 3) := by decide +kernel
theorem d_EventLog_isEvent_103 : decode b_EventLog_isEvent 103 = .ok (.lload_n 3, 1) := by decide +kernel
theorem d_EventLog_isEvent_104 : decode b_EventLog_isEvent 104 = .ok (.ldc2_w 160, 3) := by decide +kernel
theorem d_EventLog_isEvent_107 : decode b_EventLog_isEvent 107 = .ok (.lcmp, 1) := by decide +kernel
theorem d_EventLog_isEvent_108 : decode b_EventLog_isEvent 108 = .ok (.ifCond .gt 7, 3) := by decide +kernel
theorem d_EventLog_isEvent_111 : decode b_EventLog_isEvent 111 = .ok (.iconst 1, 1) := by decide +kernel
theorem d_EventLog_isEvent_112 : decode b_EventLog_isEvent 112 = .ok (.goto 4, 3) := by decide +kernel
theorem d_EventLog_isEvent_115 : decode b_EventLog_isEvent 115 = .ok (.iconst 0, 1) := by decide +kernel
theorem d_EventLog_isEvent_116 : decode b_EventLog_isEvent 116 = .ok (.ireturn, 1) := by decide +kernel
theorem d_EventLog_isEvent_117 : decode b_EventLog_isEvent 117 = .ok (.iconst 1, 1) := by decide +kernel
theorem d_EventLog_isEvent_118 : decode b_EventLog_isEvent 118 = .ok (.ireturn, 1) := by decide +kernel
theorem d_EventLog_isEvent_119 : decode b_EventLog_isEvent 119 = .ok (.iconst 0, 1) := by decide +kernel
theorem d_EventLog_isEvent_120 : decode b_EventLog_isEvent 120 = .ok (.ireturn, 1) := by decide +kernel
theorem d_EventLog_isProcess_0 : decode b_EventLog_isProcess 0 = .ok (.lload_n 0, 1) := by decide +kernel
theorem d_EventLog_isProcess_1 : decode b_EventLog_isProcess 1 = .ok (.lconst 0, 1) := by decide +kernel
theorem d_EventLog_isProcess_2 : decode b_EventLog_isProcess 2 = .ok (.lcmp, 1) := by decide +kernel
theorem d_EventLog_isProcess_3 : decode b_EventLog_isProcess 3 = .ok (.ifCond .lt 15, 3) := by decide +kernel
theorem d_EventLog_isProcess_6 : decode b_EventLog_isProcess 6 = .ok (.lload_n 0, 1) := by decide +kernel
theorem d_EventLog_isProcess_7 : decode b_EventLog_isProcess 7 = .ok (.ldc2_w 169, 3) := by decide +kernel
theorem d_EventLog_isProcess_10 : decode b_EventLog_isProcess 10 = .ok (.lcmp, 1) := by decide +kernel
theorem d_EventLog_isProcess_11 : decode b_EventLog_isProcess 11 = .ok (.ifCond .gt 7, 3) := by decide +kernel
theorem d_EventLog_isProcess_14 : decode b_EventLog_isProcess 14 = .ok (.iconst 1, 1) := by decide +kernel
theorem d_EventLog_isProcess_15 : decode b_EventLog_isProcess 15 = .ok (.goto 4, 3) := by decide +kernel
theorem d_EventLog_isProcess_18 : decode b_EventLog_isProcess 18 = .ok (.iconst 0, 1) := by decide +kernel
theorem d_EventLog_isProcess_19 : decode b_EventLog_isProcess 19 = .ok (.ireturn, 1) := by decide +kernel
theorem d_EventLog_isSignal_0 : decode b_EventLog_isSignal 0 = .ok (.iload_n 0, 1) := by decide +kernel
theorem d_EventLog_isSignal_1 : decode b_EventLog_isSignal 1 = .ok (.iconst 1, 1) := by decide +kernel
theorem d_EventLog_isSignal_2 : decode b_EventLog_isSignal 2 = .ok (.if_icmp .lt 13, 3) := by decide +kernel
theorem d_EventLog_isSignal_5 : decode b_EventLog_isSignal 5 = .ok (.iload_n 0, 1) := by decide +kernel
theorem d_EventLog_isSignal_6 : decode b_EventLog_isSignal 6 = .ok (.bipush 31, 2) := by decide +kernel
theorem d_EventLog_isSignal_8 : decode b_EventLog_isSignal 8 = .ok (.if_icmp .gt 7, 3) := by decide +kernel
theorem d_EventLog_isSignal_11 : decode b_EventLog_isSignal 11 = .ok (.iconst 1, 1) := by decide +kernel
theorem d_EventLog_isSignal_12 : decode b_EventLog_isSignal 12 = .ok (.goto 4, 3) := by decide +kernel
theorem d_EventLog_isSignal_15 : decode b_EventLog_isSignal 15 = .ok (.iconst 0, 1) := by decide +kernel
theorem d_EventLog_isSignal_16 : decode b_EventLog_isSignal 16 = .ok (.ireturn, 1) := by decide +kernel
theorem d_EventLog_heldA_0 : decode b_EventLog_heldA 0 = .ok (.iload_n 0, 1) := by decide +kernel
theorem d_EventLog_heldA_1 : decode b_EventLog_heldA 1 = .ok (.iconst 4, 1) := by decide +kernel
theorem d_EventLog_heldA_2 : decode b_EventLog_heldA 2 = .ok (.if_icmp .ne 9, 3) := by decide +kernel
theorem d_EventLog_heldA_5 : decode b_EventLog_heldA 5 = .ok (.lload_n 1, 1) := by decide +kernel
theorem d_EventLog_heldA_6 : decode b_EventLog_heldA 6 = .ok (.ldc2_w 171, 3) := by decide +kernel
theorem d_EventLog_heldA_9 : decode b_EventLog_heldA 9 = .ok (.land, 1) := by decide +kernel
theorem d_EventLog_heldA_10 : decode b_EventLog_heldA 10 = .ok (.lreturn, 1) := by decide +kernel
theorem d_EventLog_heldA_11 : decode b_EventLog_heldA 11 = .ok (.iload_n 0, 1) := by decide +kernel
theorem d_EventLog_heldA_12 : decode b_EventLog_heldA 12 = .ok (.iconst 1, 1) := by decide +kernel
theorem d_EventLog_heldA_13 : decode b_EventLog_heldA 13 = .ok (.if_icmp .ne 20, 3) := by decide +kernel
theorem d_EventLog_heldA_16 : decode b_EventLog_heldA 16 = .ok (.iload_n 3, 1) := by decide +kernel
theorem d_EventLog_heldA_17 : decode b_EventLog_heldA 17 = .ok (.bipush 8, 2) := by decide +kernel
theorem d_EventLog_heldA_19 : decode b_EventLog_heldA 19 = .ok (.if_icmp .ge 14, 3) := by decide +kernel
theorem d_EventLog_heldA_22 : decode b_EventLog_heldA 22 = .ok (.lload_n 1, 1) := by decide +kernel
theorem d_EventLog_heldA_23 : decode b_EventLog_heldA 23 = .ok (.lconst 1, 1) := by decide +kernel
theorem d_EventLog_heldA_24 : decode b_EventLog_heldA 24 = .ok (.bipush 8, 2) := by decide +kernel
theorem d_EventLog_heldA_26 : decode b_EventLog_heldA 26 = .ok (.iload_n 3, 1) := by decide +kernel
theorem d_EventLog_heldA_27 : decode b_EventLog_heldA 27 = .ok (.imul, 1) := by decide +kernel
theorem d_EventLog_heldA_28 : decode b_EventLog_heldA 28 = .ok (.lshl, 1) := by decide +kernel
theorem d_EventLog_heldA_29 : decode b_EventLog_heldA 29 = .ok (.lconst 1, 1) := by decide +kernel
theorem d_EventLog_heldA_30 : decode b_EventLog_heldA 30 = .ok (.lsub, 1) := by decide +kernel
theorem d_EventLog_heldA_31 : decode b_EventLog_heldA 31 = .ok (.land, 1) := by decide +kernel
theorem d_EventLog_heldA_32 : decode b_EventLog_heldA 32 = .ok (.lreturn, 1) := by decide +kernel
theorem d_EventLog_heldA_33 : decode b_EventLog_heldA 33 = .ok (.lload_n 1, 1) := by decide +kernel
theorem d_EventLog_heldA_34 : decode b_EventLog_heldA 34 = .ok (.lreturn, 1) := by decide +kernel
theorem d_EventLog_heldB_0 : decode b_EventLog_heldB 0 = .ok (.iload_n 0, 1) := by decide +kernel
theorem d_EventLog_heldB_1 : decode b_EventLog_heldB 1 = .ok (.iconst 1, 1) := by decide +kernel
theorem d_EventLog_heldB_2 : decode b_EventLog_heldB 2 = .ok (.if_icmp .eq 8, 3) := by decide +kernel
theorem d_EventLog_heldB_5 : decode b_EventLog_heldB 5 = .ok (.iload_n 0, 1) := by decide +kernel
theorem d_EventLog_heldB_6 : decode b_EventLog_heldB 6 = .ok (.iconst 2, 1) := by decide +kernel
theorem d_EventLog_heldB_7 : decode b_EventLog_heldB 7 = .ok (.if_icmp .ne 7, 3) := by decide +kernel
theorem d_EventLog_heldB_10 : decode b_EventLog_heldB 10 = .ok (.iload_n 1, 1) := by decide +kernel
theorem d_EventLog_heldB_11 : decode b_EventLog_heldB 11 = .ok (.goto 4, 3) := by decide +kernel
theorem d_EventLog_heldB_14 : decode b_EventLog_heldB 14 = .ok (.iconst 0, 1) := by decide +kernel
theorem d_EventLog_heldB_15 : decode b_EventLog_heldB 15 = .ok (.ireturn, 1) := by decide +kernel
