theorem d_Packer_init_0 : decode b_Packer_init 0 = .ok (.aload_n 0, 1) := by decide +kernel
theorem d_Packer_init_1 : decode b_Packer_init 1 = .ok (.invokespecial 3, 3) := by decide +kernel
theorem d_Packer_init_4 : decode b_Packer_init 4 = .ok (.aload_n 0, 1) := by decide +kernel
theorem d_Packer_init_5 : decode b_Packer_init 5 = .ok (.new 9, 3) := by decide +kernel
theorem d_Packer_init_8 : decode b_Packer_init 8 = .ok (.dup, 1) := by decide +kernel
theorem d_Packer_init_9 : decode b_Packer_init 9 = .ok (.invokespecial 11, 3) := by decide +kernel
theorem d_Packer_init_12 : decode b_Packer_init 12 = .ok (.putfield 12, 3) := by decide +kernel
theorem d_Packer_init_15 : decode b_Packer_init 15 = .ok (.aload_n 0, 1) := by decide +kernel
theorem d_Packer_init_16 : decode b_Packer_init 16 = .ok (.aload_n 1, 1) := by decide +kernel
theorem d_Packer_init_17 : decode b_Packer_init 17 = .ok (.putfield 18, 3) := by decide +kernel
theorem d_Packer_init_20 : decode b_Packer_init 20 = .ok (.return_, 1) := by decide +kernel
theorem d_Packer_bytes_0 : decode b_Packer_bytes 0 = .ok (.aload_n 0, 1) := by decide +kernel
theorem d_Packer_bytes_1 : decode b_Packer_bytes 1 = .ok (.getfield 22, 3) := by decide +kernel
theorem d_Packer_bytes_4 : decode b_Packer_bytes 4 = .ok (.ireturn, 1) := by decide +kernel
theorem d_Packer_entries_0 : decode b_Packer_entries 0 = .ok (.aload_n 0, 1) := by decide +kernel
theorem d_Packer_entries_1 : decode b_Packer_entries 1 = .ok (.getfield 26, 3) := by decide +kernel
theorem d_Packer_entries_4 : decode b_Packer_entries 4 = .ok (.ireturn, 1) := by decide +kernel
theorem d_Packer_runs_0 : decode b_Packer_runs 0 = .ok (.aload_n 0, 1) := by decide +kernel
theorem d_Packer_runs_1 : decode b_Packer_runs 1 = .ok (.getfield 29, 3) := by decide +kernel
theorem d_Packer_runs_4 : decode b_Packer_runs 4 = .ok (.ireturn, 1) := by decide +kernel
theorem d_Packer_sames_0 : decode b_Packer_sames 0 = .ok (.aload_n 0, 1) := by decide +kernel
theorem d_Packer_sames_1 : decode b_Packer_sames 1 = .ok (.getfield 32, 3) := by decide +kernel
theorem d_Packer_sames_4 : decode b_Packer_sames 4 = .ok (.ireturn, 1) := by decide +kernel
theorem d_Packer_repeats_0 : decode b_Packer_repeats 0 = .ok (.aload_n 0, 1) := by decide +kernel
theorem d_Packer_repeats_1 : decode b_Packer_repeats 1 = .ok (.getfield 35, 3) := by decide +kernel
theorem d_Packer_repeats_4 : decode b_Packer_repeats 4 = .ok (.ireturn, 1) := by decide +kernel
theorem d_Packer_run_0 : decode b_Packer_run 0 = .ok (.aload_n 0, 1) := by decide +kernel
theorem d_Packer_run_1 : decode b_Packer_run 1 = .ok (.iload_n 2, 1) := by decide +kernel
theorem d_Packer_run_2 : decode b_Packer_run 2 = .ok (.invokevirtual 38, 3) := by decide +kernel
theorem d_Packer_run_5 : decode b_Packer_run 5 = .ok (.aload_n 0, 1) := by decide +kernel
theorem d_Packer_run_6 : decode b_Packer_run 6 = .ok (.aload_n 1, 1) := by decide +kernel
theorem d_Packer_run_7 : decode b_Packer_run 7 = .ok (.invokevirtual 42, 3) := by decide +kernel
theorem d_Packer_run_10 : decode b_Packer_run 10 = .ok (.i2l, 1) := by decide +kernel
theorem d_Packer_run_11 : decode b_Packer_run 11 = .ok (.invokevirtual 48, 3) := by decide +kernel
theorem d_Packer_run_14 : decode b_Packer_run 14 = .ok (.iconst 0, 1) := by decide +kernel
theorem d_Packer_run_15 : decode b_Packer_run 15 = .ok (.istore_n 3, 1) := by decide +kernel
theorem d_Packer_run_16 : decode b_Packer_run 16 = .ok (.iconst 0, 1) := by decide +kernel
theorem d_Packer_run_17 : decode b_Packer_run 17 = .ok (.istore 4, 2) := by decide +kernel
theorem d_Packer_run_19 : decode b_Packer_run 19 = .ok (.iload 4, 2) := by decide +kernel
theorem d_Packer_run_21 : decode b_Packer_run 21 = .ok (.aload_n 1, 1) := by decide +kernel
theorem d_Packer_run_22 : decode b_Packer_run 22 = .ok (.invokevirtual 42, 3) := by decide +kernel
theorem d_Packer_run_25 : decode b_Packer_run 25 = .ok (.if_icmp .ge 53, 3) := by decide +kernel
theorem d_Packer_run_28 : decode b_Packer_run 28 = .ok (.aload_n 1, 1) := by decide +kernel
theorem d_Packer_run_29 : decode b_Packer_run 29 = .ok (.iload 4, 2) := by decide +kernel
theorem d_Packer_run_31 : decode b_Packer_run 31 = .ok (.invokevirtual 52, 3) := by decide +kernel
theorem d_Packer_run_34 : decode b_Packer_run 34 = .ok (.ifCond .eq 9, 3) := by decide +kernel
theorem d_Packer_run_37 : decode b_Packer_run 37 = .ok (.iinc 3 1, 3) := by decide +kernel
theorem d_Packer_run_40 : decode b_Packer_run 40 = .ok (.goto 17, 3) := by decide +kernel
theorem d_Packer_run_43 : decode b_Packer_run 43 = .ok (.aload_n 0, 1) := by decide +kernel
theorem d_Packer_run_44 : decode b_Packer_run 44 = .ok (.iload_n 3, 1) := by decide +kernel
theorem d_Packer_run_45 : decode b_Packer_run 45 = .ok (.invokevirtual 56, 3) := by decide +kernel
theorem d_Packer_run_48 : decode b_Packer_run 48 = .ok (.iconst 0, 1) := by decide +kernel
theorem d_Packer_run_49 : decode b_Packer_run 49 = .ok (.istore_n 3, 1) := by decide +kernel
theorem d_Packer_run_50 : decode b_Packer_run 50 = .ok (.aload_n 0, 1) := by decide +kernel
theorem d_Packer_run_51 : decode b_Packer_run 51 = .ok (.aload_n 1, 1) := by decide +kernel
theorem d_Packer_run_52 : decode b_Packer_run 52 = .ok (.iload 4, 2) := by decide +kernel
theorem d_Packer_run_54 : decode b_Packer_run 54 = .ok (.invokevirtual 60, 3) := by decide +kernel
theorem d_Packer_run_57 : decode b_Packer_run 57 = .ok (.aload_n 0, 1) := by decide +kernel
theorem d_Packer_run_58 : decode b_Packer_run 58 = .ok (.getfield 12, 3) := by decide +kernel
theorem d_Packer_run_61 : decode b_Packer_run 61 = .ok (.aload_n 1, 1) := by decide +kernel
theorem d_Packer_run_62 : decode b_Packer_run 62 = .ok (.iload 4, 2) := by decide +kernel
theorem d_Packer_run_64 : decode b_Packer_run 64 = .ok (.invokevirtual 64, 3) := by decide +kernel
theorem d_Packer_run_67 : decode b_Packer_run 67 = .ok (.iload 4, 2) := by decide +kernel
theorem d_Packer_run_69 : decode b_Packer_run 69 = .ok (.invokevirtual 68, 3) := by decide +kernel
theorem d_Packer_run_72 : decode b_Packer_run 72 = .ok (.iinc 4 1, 3) := by decide +kernel
theorem d_Packer_run_75 : decode b_Packer_run 75 = .ok (.goto (-56), 3) := by decide +kernel
theorem d_Packer_run_78 : decode b_Packer_run 78 = .ok (.aload_n 0, 1) := by decide +kernel
theorem d_Packer_run_79 : decode b_Packer_run 79 = .ok (.iload_n 3, 1) := by decide +kernel
theorem d_Packer_run_80 : decode b_Packer_run 80 = .ok (.invokevirtual 56, 3) := by decide +kernel
theorem d_Packer_run_83 : decode b_Packer_run 83 = .ok (.return_, 1) := by decide +kernel
theorem d_Packer_begin_0 : decode b_Packer_begin 0 = .ok (.aload_n 0, 1) := by decide +kernel
theorem d_Packer_begin_1 : decode b_Packer_begin 1 = .ok (.iload_n 1, 1) := by decide +kernel
theorem d_Packer_begin_2 : decode b_Packer_begin 2 = .ok (.putfield 72, 3) := by decide +kernel
theorem d_Packer_begin_5 : decode b_Packer_begin 5 = .ok (.aload_n 0, 1) := by decide +kernel
theorem d_Packer_begin_6 : decode b_Packer_begin 6 = .ok (.getfield 72, 3) := by decide +kernel
theorem d_Packer_begin_9 : decode b_Packer_begin 9 = .ok (.ifCond .eq 11, 3) := by decide +kernel
theorem d_Packer_begin_12 : decode b_Packer_begin 12 = .ok (.aload_n 0, 1) := by decide +kernel
theorem d_Packer_begin_13 : decode b_Packer_begin 13 = .ok (.getfield 18, 3) := by decide +kernel
theorem d_Packer_begin_16 : decode b_Packer_begin 16 = .ok (.iconst 0, 1) := by decide +kernel
theorem d_Packer_begin_17 : decode b_Packer_begin 17 = .ok (.invokevirtual 76, 3) := by decide +kernel
theorem d_Packer_begin_20 : decode b_Packer_begin 20 = .ok (.aload_n 0, 1) := by decide +kernel
theorem d_Packer_begin_21 : decode b_Packer_begin 21 = .ok (.getfield 12, 3) := by decide +kernel
theorem d_Packer_begin_24 : decode b_Packer_begin 24 = .ok (.invokevirtual 81, 3) := by decide +kernel
theorem d_Packer_begin_27 : decode b_Packer_begin 27 = .ok (.aload_n 0, 1) := by decide +kernel
theorem d_Packer_begin_28 : decode b_Packer_begin 28 = .ok (.iconst 0, 1) := by decide +kernel
theorem d_Packer_begin_29 : decode b_Packer_begin 29 = .ok (.putfield 22, 3) := by decide +kernel
theorem d_Packer_begin_32 : decode b_Packer_begin 32 = .ok (.aload_n 0, 1) := by decide +kernel
theorem d_Packer_begin_33 : decode b_Packer_begin 33 = .ok (.iconst 0, 1) := by decide +kernel
theorem d_Packer_begin_34 : decode b_Packer_begin 34 = .ok (.putfield 26, 3) := by decide +kernel
theorem d_Packer_begin_37 : decode b_Packer_begin 37 = .ok (.aload_n 0, 1) := by decide +kernel
theorem d_Packer_begin_38 : decode b_Packer_begin 38 = .ok (.iconst 0, 1) := by decide +kernel
theorem d_Packer_begin_39 : decode b_Packer_begin 39 = .ok (.putfield 29, 3) := by decide +kernel
theorem d_Packer_begin_42 : decode b_Packer_begin 42 = .ok (.aload_n 0, 1) := by decide +kernel
theorem d_Packer_begin_43 : decode b_Packer_begin 43 = .ok (.iconst 0, 1) := by decide +kernel
theorem d_Packer_begin_44 : decode b_Packer_begin 44 = .ok (.putfield 32, 3) := by decide +kernel
theorem d_Packer_begin_47 : decode b_Packer_begin 47 = .ok (.aload_n 0, 1) := by decide +kernel
theorem d_Packer_begin_48 : decode b_Packer_begin 48 = .ok (.iconst 0, 1) := by decide +kernel
theorem d_Packer_begin_49 : decode b_Packer_begin 49 = .ok (.putfield 35, 3) := by decide +kernel
theorem d_Packer_begin_52 : decode b_Packer_begin 52 = .ok (.return_, 1) := by decide +kernel
theorem d_Packer_packRun_0 : decode b_Packer_packRun 0 = .ok (.iload_n 1, 1) := by decide +kernel
theorem d_Packer_packRun_1 : decode b_Packer_packRun 1 = .ok (.ifCond .gt 4, 3) := by decide +kernel
theorem d_Packer_packRun_4 : decode b_Packer_packRun 4 = .ok (.return_, 1) := by decide +kernel
theorem d_Packer_packRun_5 : decode b_Packer_packRun 5 = .ok (.aload_n 0, 1) := by decide +kernel
theorem d_Packer_packRun_6 : decode b_Packer_packRun 6 = .ok (.dup, 1) := by decide +kernel
theorem d_Packer_packRun_7 : decode b_Packer_packRun 7 = .ok (.getfield 26, 3) := by decide +kernel
theorem d_Packer_packRun_10 : decode b_Packer_packRun 10 = .ok (.iconst 1, 1) := by decide +kernel
theorem d_Packer_packRun_11 : decode b_Packer_packRun 11 = .ok (.iadd, 1) := by decide +kernel
theorem d_Packer_packRun_12 : decode b_Packer_packRun 12 = .ok (.putfield 26, 3) := by decide +kernel
theorem d_Packer_packRun_15 : decode b_Packer_packRun 15 = .ok (.aload_n 0, 1) := by decide +kernel
theorem d_Packer_packRun_16 : decode b_Packer_packRun 16 = .ok (.dup, 1) := by decide +kernel
theorem d_Packer_packRun_17 : decode b_Packer_packRun 17 = .ok (.getfield 29, 3) := by decide +kernel
theorem d_Packer_packRun_20 : decode b_Packer_packRun 20 = .ok (.iconst 1, 1) := by decide +kernel
theorem d_Packer_packRun_21 : decode b_Packer_packRun 21 = .ok (.iadd, 1) := by decide +kernel
theorem d_Packer_packRun_22 : decode b_Packer_packRun 22 = .ok (.putfield 29, 3) := by decide +kernel
theorem d_Packer_packRun_25 : decode b_Packer_packRun 25 = .ok (.iload_n 1, 1) := by decide +kernel
theorem d_Packer_packRun_26 : decode b_Packer_packRun 26 = .ok (.bipush 15, 2) := by decide +kernel
theorem d_Packer_packRun_28 : decode b_Packer_packRun 28 = .ok (.if_icmp .gt 15, 3) := by decide +kernel
theorem d_Packer_packRun_31 : decode b_Packer_packRun 31 = .ok (.aload_n 0, 1) := by decide +kernel
theorem d_Packer_packRun_32 : decode b_Packer_packRun 32 = .ok (.iconst 5, 1) := by decide +kernel
theorem d_Packer_packRun_33 : decode b_Packer_packRun 33 = .ok (.iload_n 1, 1) := by decide +kernel
theorem d_Packer_packRun_34 : decode b_Packer_packRun 34 = .ok (.iconst 4, 1) := by decide +kernel
theorem d_Packer_packRun_35 : decode b_Packer_packRun 35 = .ok (.ishl, 1) := by decide +kernel
theorem d_Packer_packRun_36 : decode b_Packer_packRun 36 = .ok (.ior, 1) := by decide +kernel
theorem d_Packer_packRun_37 : decode b_Packer_packRun 37 = .ok (.invokevirtual 84, 3) := by decide +kernel
theorem d_Packer_packRun_40 : decode b_Packer_packRun 40 = .ok (.goto 14, 3) := by decide +kernel
theorem d_Packer_packRun_43 : decode b_Packer_packRun 43 = .ok (.aload_n 0, 1) := by decide +kernel
theorem d_Packer_packRun_44 : decode b_Packer_packRun 44 = .ok (.iconst 5, 1) := by decide +kernel
theorem d_Packer_packRun_45 : decode b_Packer_packRun 45 = .ok (.invokevirtual 84, 3) := by decide +kernel
theorem d_Packer_packRun_48 : decode b_Packer_packRun 48 = .ok (.aload_n 0, 1) := by decide +kernel
theorem d_Packer_packRun_49 : decode b_Packer_packRun 49 = .ok (.iload_n 1, 1) := by decide +kernel
theorem d_Packer_packRun_50 : decode b_Packer_packRun 50 = .ok (.i2l, 1) := by decide +kernel
theorem d_Packer_packRun_51 : decode b_Packer_packRun 51 = .ok (.invokevirtual 48, 3) := by decide +kernel
theorem d_Packer_packRun_54 : decode b_Packer_packRun 54 = .ok (.return_, 1) := by decide +kernel
theorem d_Packer_packEntry_0 : decode b_Packer_packEntry 0 = .ok (.aload_n 1, 1) := by decide +kernel
theorem d_Packer_packEntry_1 : decode b_Packer_packEntry 1 = .ok (.iload_n 2, 1) := by decide +kernel
theorem d_Packer_packEntry_2 : decode b_Packer_packEntry 2 = .ok (.invokevirtual 87, 3) := by decide +kernel
theorem d_Packer_packEntry_5 : decode b_Packer_packEntry 5 = .ok (.istore_n 3, 1) := by decide +kernel
theorem d_Packer_packEntry_6 : decode b_Packer_packEntry 6 = .ok (.aload_n 0, 1) := by decide +kernel
theorem d_Packer_packEntry_7 : decode b_Packer_packEntry 7 = .ok (.aload_n 1, 1) := by decide +kernel
theorem d_Packer_packEntry_8 : decode b_Packer_packEntry 8 = .ok (.iload_n 2, 1) := by decide +kernel
theorem d_Packer_packEntry_9 : decode b_Packer_packEntry 9 = .ok (.invokevirtual 90, 3) := by decide +kernel
theorem d_Packer_packEntry_12 : decode b_Packer_packEntry 12 = .ok (.istore 4, 2) := by decide +kernel
theorem d_Packer_packEntry_14 : decode b_Packer_packEntry 14 = .ok (.aload_n 0, 1) := by decide +kernel
theorem d_Packer_packEntry_15 : decode b_Packer_packEntry 15 = .ok (.aload_n 1, 1) := by decide +kernel
theorem d_Packer_packEntry_16 : decode b_Packer_packEntry 16 = .ok (.iload_n 2, 1) := by decide +kernel
theorem d_Packer_packEntry_17 : decode b_Packer_packEntry 17 = .ok (.iload 4, 2) := by decide +kernel
theorem d_Packer_packEntry_19 : decode b_Packer_packEntry 19 = .ok (.invokevirtual 94, 3) := by decide +kernel
theorem d_Packer_packEntry_22 : decode b_Packer_packEntry 22 = .ok (.istore 5, 2) := by decide +kernel
theorem d_Packer_packEntry_24 : decode b_Packer_packEntry 24 = .ok (.aload_n 0, 1) := by decide +kernel
theorem d_Packer_packEntry_25 : decode b_Packer_packEntry 25 = .ok (.dup, 1) := by decide +kernel
theorem d_Packer_packEntry_26 : decode b_Packer_packEntry 26 = .ok (.getfield 26, 3) := by decide +kernel
theorem d_Packer_packEntry_29 : decode b_Packer_packEntry 29 = .ok (.iconst 1, 1) := by decide +kernel
theorem d_Packer_packEntry_30 : decode b_Packer_packEntry 30 = .ok (.iadd, 1) := by decide +kernel
theorem d_Packer_packEntry_31 : decode b_Packer_packEntry 31 = .ok (.putfield 26, 3) := by decide +kernel
theorem d_Packer_packEntry_34 : decode b_Packer_packEntry 34 = .ok (.aload_n 0, 1) := by decide +kernel
theorem d_Packer_packEntry_35 : decode b_Packer_packEntry 35 = .ok (.aload_n 1, 1) := by decide +kernel
theorem d_Packer_packEntry_36 : decode b_Packer_packEntry 36 = .ok (.iload_n 2, 1) := by decide +kernel
theorem d_Packer_packEntry_37 : decode b_Packer_packEntry 37 = .ok (.invokevirtual 64, 3) := by decide +kernel
theorem d_Packer_packEntry_40 : decode b_Packer_packEntry 40 = .ok (.iload_n 3, 1) := by decide +kernel
theorem d_Packer_packEntry_41 : decode b_Packer_packEntry 41 = .ok (.ifCond .eq 8, 3) := by decide +kernel
theorem d_Packer_packEntry_44 : decode b_Packer_packEntry 44 = .ok (.bipush 8, 2) := by decide +kernel
theorem d_Packer_packEntry_46 : decode b_Packer_packEntry 46 = .ok (.goto 4, 3) := by decide +kernel
theorem d_Packer_packEntry_49 : decode b_Packer_packEntry 49 = .ok (.iconst 0, 1) := by decide +kernel
theorem d_Packer_packEntry_50 : decode b_Packer_packEntry 50 = .ok (.ior, 1) := by decide +kernel
theorem d_Packer_packEntry_51 : decode b_Packer_packEntry 51 = .ok (.iload 5, 2) := by decide +kernel
theorem d_Packer_packEntry_53 : decode b_Packer_packEntry 53 = .ok (.iconst 4, 1) := by decide +kernel
theorem d_Packer_packEntry_54 : decode b_Packer_packEntry 54 = .ok (.ishl, 1) := by decide +kernel
theorem d_Packer_packEntry_55 : decode b_Packer_packEntry 55 = .ok (.ior, 1) := by decide +kernel
theorem d_Packer_packEntry_56 : decode b_Packer_packEntry 56 = .ok (.invokevirtual 84, 3) := by decide +kernel
theorem d_Packer_packEntry_59 : decode b_Packer_packEntry 59 = .ok (.iload_n 3, 1) := by decide +kernel
theorem d_Packer_packEntry_60 : decode b_Packer_packEntry 60 = .ok (.ifCond .eq 16, 3) := by decide +kernel
theorem d_Packer_packEntry_63 : decode b_Packer_packEntry 63 = .ok (.aload_n 0, 1) := by decide +kernel
theorem d_Packer_packEntry_64 : decode b_Packer_packEntry 64 = .ok (.dup, 1) := by decide +kernel
theorem d_Packer_packEntry_65 : decode b_Packer_packEntry 65 = .ok (.getfield 32, 3) := by decide +kernel
theorem d_Packer_packEntry_68 : decode b_Packer_packEntry 68 = .ok (.iconst 1, 1) := by decide +kernel
theorem d_Packer_packEntry_69 : decode b_Packer_packEntry 69 = .ok (.iadd, 1) := by decide +kernel
theorem d_Packer_packEntry_70 : decode b_Packer_packEntry 70 = .ok (.putfield 32, 3) := by decide +kernel
theorem d_Packer_packEntry_73 : decode b_Packer_packEntry 73 = .ok (.goto 12, 3) := by decide +kernel
theorem d_Packer_packEntry_76 : decode b_Packer_packEntry 76 = .ok (.aload_n 0, 1) := by decide +kernel
theorem d_Packer_packEntry_77 : decode b_Packer_packEntry 77 = .ok (.aload_n 1, 1) := by decide +kernel
theorem d_Packer_packEntry_78 : decode b_Packer_packEntry 78 = .ok (.iload_n 2, 1) := by decide +kernel
theorem d_Packer_packEntry_79 : decode b_Packer_packEntry 79 = .ok (.invokevirtual 98, 3) := by decide +kernel
theorem d_Packer_packEntry_82 : decode b_Packer_packEntry 82 = .ok (.invokevirtual 48, 3) := by decide +kernel
theorem d_Packer_packEntry_85 : decode b_Packer_packEntry 85 = .ok (.iload 4, 2) := by decide +kernel
theorem d_Packer_packEntry_87 : decode b_Packer_packEntry 87 = .ok (.ifCond .le 23, 3) := by decide +kernel
theorem d_Packer_packEntry_90 : decode b_Packer_packEntry 90 = .ok (.aload_n 0, 1) := by decide +kernel
theorem d_Packer_packEntry_91 : decode b_Packer_packEntry 91 = .ok (.dup, 1) := by decide +kernel
theorem d_Packer_packEntry_92 : decode b_Packer_packEntry 92 = .ok (.getfield 35, 3) := by decide +kernel
theorem d_Packer_packEntry_95 : decode b_Packer_packEntry 95 = .ok (.iconst 1, 1) := by decide +kernel
theorem d_Packer_packEntry_96 : decode b_Packer_packEntry 96 = .ok (.iadd, 1) := by decide +kernel
theorem d_Packer_packEntry_97 : decode b_Packer_packEntry 97 = .ok (.putfield 35, 3) := by decide +kernel
theorem d_Packer_packEntry_100 : decode b_Packer_packEntry 100 = .ok (.aload_n 0, 1) := by decide +kernel
theorem d_Packer_packEntry_101 : decode b_Packer_packEntry 101 = .ok (.iload 4, 2) := by decide +kernel
theorem d_Packer_packEntry_103 : decode b_Packer_packEntry 103 = .ok (.i2l, 1) := by decide +kernel
theorem d_Packer_packEntry_104 : decode b_Packer_packEntry 104 = .ok (.invokevirtual 48, 3) := by decide +kernel
theorem d_Packer_packEntry_107 : decode b_Packer_packEntry 107 = .ok (.goto 11, 3) := by decide +kernel
theorem d_Packer_packEntry_110 : decode b_Packer_packEntry 110 = .ok (.aload_n 0, 1) := by decide +kernel
theorem d_Packer_packEntry_111 : decode b_Packer_packEntry 111 = .ok (.aload_n 1, 1) := by decide +kernel
theorem d_Packer_packEntry_112 : decode b_Packer_packEntry 112 = .ok (.iload_n 2, 1) := by decide +kernel
theorem d_Packer_packEntry_113 : decode b_Packer_packEntry 113 = .ok (.iload 5, 2) := by decide +kernel
theorem d_Packer_packEntry_115 : decode b_Packer_packEntry 115 = .ok (.invokevirtual 102, 3) := by decide +kernel
theorem d_Packer_packEntry_118 : decode b_Packer_packEntry 118 = .ok (.return_, 1) := by decide +kernel
theorem d_Packer_repeated_0 : decode b_Packer_repeated 0 = .ok (.aload_n 1, 1) := by decide +kernel
theorem d_Packer_repeated_1 : decode b_Packer_repeated 1 = .ok (.iload_n 2, 1) := by decide +kernel
theorem d_Packer_repeated_2 : decode b_Packer_repeated 2 = .ok (.invokevirtual 64, 3) := by decide +kernel
theorem d_Packer_repeated_5 : decode b_Packer_repeated 5 = .ok (.iconst 1, 1) := by decide +kernel
theorem d_Packer_repeated_6 : decode b_Packer_repeated 6 = .ok (.if_icmp .ne 12, 3) := by decide +kernel
theorem d_Packer_repeated_9 : decode b_Packer_repeated 9 = .ok (.aload_n 1, 1) := by decide +kernel
theorem d_Packer_repeated_10 : decode b_Packer_repeated 10 = .ok (.iload_n 2, 1) := by decide +kernel
theorem d_Packer_repeated_11 : decode b_Packer_repeated 11 = .ok (.invokevirtual 106, 3) := by decide +kernel
theorem d_Packer_repeated_14 : decode b_Packer_repeated 14 = .ok (.iconst 2, 1) := by decide +kernel
theorem d_Packer_repeated_15 : decode b_Packer_repeated 15 = .ok (.if_icmp .ge 5, 3) := by decide +kernel
theorem d_Packer_repeated_18 : decode b_Packer_repeated 18 = .ok (.iconst 0, 1) := by decide +kernel
theorem d_Packer_repeated_19 : decode b_Packer_repeated 19 = .ok (.ireturn, 1) := by decide +kernel
theorem d_Packer_repeated_20 : decode b_Packer_repeated 20 = .ok (.iconst 1, 1) := by decide +kernel
theorem d_Packer_repeated_21 : decode b_Packer_repeated 21 = .ok (.istore_n 3, 1) := by decide +kernel
theorem d_Packer_repeated_22 : decode b_Packer_repeated 22 = .ok (.iload_n 3, 1) := by decide +kernel
theorem d_Packer_repeated_23 : decode b_Packer_repeated 23 = .ok (.bipush 20, 2) := by decide +kernel
theorem d_Packer_repeated_25 : decode b_Packer_repeated 25 = .ok (.if_icmp .gt 28, 3) := by decide +kernel
theorem d_Packer_repeated_28 : decode b_Packer_repeated 28 = .ok (.aload_n 1, 1) := by decide +kernel
theorem d_Packer_repeated_29 : decode b_Packer_repeated 29 = .ok (.iload_n 2, 1) := by decide +kernel
theorem d_Packer_repeated_30 : decode b_Packer_repeated 30 = .ok (.aload_n 0, 1) := by decide +kernel
theorem d_Packer_repeated_31 : decode b_Packer_repeated 31 = .ok (.getfield 12, 3) := by decide +kernel
theorem d_Packer_repeated_34 : decode b_Packer_repeated 34 = .ok (.iload_n 3, 1) := by decide +kernel
theorem d_Packer_repeated_35 : decode b_Packer_repeated 35 = .ok (.i2l, 1) := by decide +kernel
theorem d_Packer_repeated_36 : decode b_Packer_repeated 36 = .ok (.invokevirtual 109, 3) := by decide +kernel
theorem d_Packer_repeated_39 : decode b_Packer_repeated 39 = .ok (.invokevirtual 113, 3) := by decide +kernel
theorem d_Packer_repeated_42 : decode b_Packer_repeated 42 = .ok (.ifCond .eq 5, 3) := by decide +kernel
theorem d_Packer_repeated_45 : decode b_Packer_repeated 45 = .ok (.iload_n 3, 1) := by decide +kernel
theorem d_Packer_repeated_46 : decode b_Packer_repeated 46 = .ok (.ireturn, 1) := by decide +kernel
theorem d_Packer_repeated_47 : decode b_Packer_repeated 47 = .ok (.iinc 3 1, 3) := by decide +kernel
theorem d_Packer_repeated_50 : decode b_Packer_repeated 50 = .ok (.goto (-28), 3) := by decide +kernel
theorem d_Packer_repeated_53 : decode b_Packer_repeated 53 = .ok (.iconst 0, 1) := by decide +kernel
theorem d_Packer_repeated_54 : decode b_Packer_repeated 54 = .ok (.ireturn, 1) := by decide +kernel
theorem d_Packer_headX_0 : decode b_Packer_headX 0 = .ok (.aload_n 1, 1) := by decide +kernel
theorem d_Packer_headX_1 : decode b_Packer_headX 1 = .ok (.iload_n 2, 1) := by decide +kernel
theorem d_Packer_headX_2 : decode b_Packer_headX 2 = .ok (.invokevirtual 64, 3) := by decide +kernel
theorem d_Packer_headX_5 : decode b_Packer_headX 5 = .ok (.tableswitch 73 0 3 #[31, 38, 31, 52], 31) := by decide +kernel
theorem d_Packer_headX_36 : decode b_Packer_headX 36 = .ok (.aload_n 1, 1) := by decide +kernel
theorem d_Packer_headX_37 : decode b_Packer_headX 37 = .ok (.iload_n 2, 1) := by decide +kernel
theorem d_Packer_headX_38 : decode b_Packer_headX 38 = .ok (.invokevirtual 117, 3) := by decide +kernel
theorem d_Packer_headX_41 : decode b_Packer_headX 41 = .ok (.l2i, 1) := by decide +kernel
theorem d_Packer_headX_42 : decode b_Packer_headX 42 = .ok (.ireturn, 1) := by decide +kernel
theorem d_Packer_headX_43 : decode b_Packer_headX 43 = .ok (.iload_n 3, 1) := by decide +kernel
theorem d_Packer_headX_44 : decode b_Packer_headX 44 = .ok (.ifCond .le 7, 3) := by decide +kernel
theorem d_Packer_headX_47 : decode b_Packer_headX 47 = .ok (.iconst 0, 1) := by decide +kernel
theorem d_Packer_headX_48 : decode b_Packer_headX 48 = .ok (.goto 8, 3) := by decide +kernel
theorem d_Packer_headX_51 : decode b_Packer_headX 51 = .ok (.aload_n 1, 1) := by decide +kernel
theorem d_Packer_headX_52 : decode b_Packer_headX 52 = .ok (.iload_n 2, 1) := by decide +kernel
theorem d_Packer_headX_53 : decode b_Packer_headX 53 = .ok (.invokevirtual 106, 3) := by decide +kernel
theorem d_Packer_headX_56 : decode b_Packer_headX 56 = .ok (.ireturn, 1) := by decide +kernel
theorem d_Packer_headX_57 : decode b_Packer_headX 57 = .ok (.aload_n 1, 1) := by decide +kernel
theorem d_Packer_headX_58 : decode b_Packer_headX 58 = .ok (.iload_n 2, 1) := by decide +kernel
theorem d_Packer_headX_59 : decode b_Packer_headX 59 = .ok (.aload_n 0, 1) := by decide +kernel
theorem d_Packer_headX_60 : decode b_Packer_headX 60 = .ok (.getfield 12, 3) := by decide +kernel
theorem d_Packer_headX_63 : decode b_Packer_headX 63 = .ok (.invokevirtual 120, 3) := by decide +kernel
theorem d_Packer_headX_66 : decode b_Packer_headX 66 = .ok (.invokevirtual 113, 3) := by decide +kernel
theorem d_Packer_headX_69 : decode b_Packer_headX 69 = .ok (.ifCond .eq 7, 3) := by decide +kernel
theorem d_Packer_headX_72 : decode b_Packer_headX 72 = .ok (.iconst 1, 1) := by decide +kernel
theorem d_Packer_headX_73 : decode b_Packer_headX 73 = .ok (.goto 4, 3) := by decide +kernel
theorem d_Packer_headX_76 : decode b_Packer_headX 76 = .ok (.iconst 0, 1) := by decide +kernel
theorem d_Packer_headX_77 : decode b_Packer_headX 77 = .ok (.ireturn, 1) := by decide +kernel
theorem d_Packer_headX_78 : decode b_Packer_headX 78 = .ok (.iconst 0, 1) := by decide +kernel
theorem d_Packer_headX_79 : decode b_Packer_headX 79 = .ok (.ireturn, 1) := by decide +kernel
theorem d_Packer_packBrought_0 : decode b_Packer_packBrought 0 = .ok (.aload_n 1, 1) := by decide +kernel
theorem d_Packer_packBrought_1 : decode b_Packer_packBrought 1 = .ok (.iload_n 2, 1) := by decide +kernel
theorem d_Packer_packBrought_2 : decode b_Packer_packBrought 2 = .ok (.invokevirtual 64, 3) := by decide +kernel
theorem d_Packer_packBrought_5 : decode b_Packer_packBrought 5 = .ok (.tableswitch 89 1 4 #[31, 48, 60, 76], 31) := by decide +kernel
theorem d_Packer_packBrought_36 : decode b_Packer_packBrought 36 = .ok (.aload_n 0, 1) := by decide +kernel
theorem d_Packer_packBrought_37 : decode b_Packer_packBrought 37 = .ok (.aload_n 1, 1) := by decide +kernel
theorem d_Packer_packBrought_38 : decode b_Packer_packBrought 38 = .ok (.iload_n 2, 1) := by decide +kernel
theorem d_Packer_packBrought_39 : decode b_Packer_packBrought 39 = .ok (.invokevirtual 117, 3) := by decide +kernel
theorem d_Packer_packBrought_42 : decode b_Packer_packBrought 42 = .ok (.aload_n 1, 1) := by decide +kernel
theorem d_Packer_packBrought_43 : decode b_Packer_packBrought 43 = .ok (.iload_n 2, 1) := by decide +kernel
theorem d_Packer_packBrought_44 : decode b_Packer_packBrought 44 = .ok (.invokevirtual 106, 3) := by decide +kernel
theorem d_Packer_packBrought_47 : decode b_Packer_packBrought 47 = .ok (.invokevirtual 123, 3) := by decide +kernel
theorem d_Packer_packBrought_50 : decode b_Packer_packBrought 50 = .ok (.goto 44, 3) := by decide +kernel
theorem d_Packer_packBrought_53 : decode b_Packer_packBrought 53 = .ok (.aload_n 0, 1) := by decide +kernel
theorem d_Packer_packBrought_54 : decode b_Packer_packBrought 54 = .ok (.aload_n 1, 1) := by decide +kernel
theorem d_Packer_packBrought_55 : decode b_Packer_packBrought 55 = .ok (.iload_n 2, 1) := by decide +kernel
theorem d_Packer_packBrought_56 : decode b_Packer_packBrought 56 = .ok (.invokevirtual 106, 3) := by decide +kernel
theorem d_Packer_packBrought_59 : decode b_Packer_packBrought 59 = .ok (.invokevirtual 84, 3) := by decide +kernel
theorem d_Packer_packBrought_62 : decode b_Packer_packBrought 62 = .ok (.goto 32, 3) := by decide +kernel
theorem d_Packer_packBrought_65 : decode b_Packer_packBrought 65 = .ok (.iload_n 3, 1) := by decide +kernel
theorem d_Packer_packBrought_66 : decode b_Packer_packBrought 66 = .ok (.ifCond .ne 28, 3) := by decide +kernel
theorem d_Packer_packBrought_69 : decode b_Packer_packBrought 69 = .ok (.aload_n 0, 1) := by decide +kernel
theorem d_Packer_packBrought_70 : decode b_Packer_packBrought 70 = .ok (.aload_n 1, 1) := by decide +kernel
theorem d_Packer_packBrought_71 : decode b_Packer_packBrought 71 = .ok (.iload_n 2, 1) := by decide +kernel
theorem d_Packer_packBrought_72 : decode b_Packer_packBrought 72 = .ok (.invokevirtual 117, 3) := by decide +kernel
theorem d_Packer_packBrought_75 : decode b_Packer_packBrought 75 = .ok (.invokevirtual 48, 3) := by decide +kernel
theorem d_Packer_packBrought_78 : decode b_Packer_packBrought 78 = .ok (.goto 16, 3) := by decide +kernel
theorem d_Packer_packBrought_81 : decode b_Packer_packBrought 81 = .ok (.aload_n 0, 1) := by decide +kernel
theorem d_Packer_packBrought_82 : decode b_Packer_packBrought 82 = .ok (.aload_n 1, 1) := by decide +kernel
theorem d_Packer_packBrought_83 : decode b_Packer_packBrought 83 = .ok (.iload_n 2, 1) := by decide +kernel
theorem d_Packer_packBrought_84 : decode b_Packer_packBrought 84 = .ok (.invokevirtual 117, 3) := by decide +kernel
theorem d_Packer_packBrought_87 : decode b_Packer_packBrought 87 = .ok (.iconst 4, 1) := by decide +kernel
theorem d_Packer_packBrought_88 : decode b_Packer_packBrought 88 = .ok (.invokevirtual 123, 3) := by decide +kernel
theorem d_Packer_packBrought_91 : decode b_Packer_packBrought 91 = .ok (.goto 3, 3) := by decide +kernel
theorem d_Packer_packBrought_94 : decode b_Packer_packBrought 94 = .ok (.return_, 1) := by decide +kernel
theorem d_Packer_packBytes_0 : decode b_Packer_packBytes 0 = .ok (.iload_n 3, 1) := by decide +kernel
theorem d_Packer_packBytes_1 : decode b_Packer_packBytes 1 = .ok (.iconst 1, 1) := by decide +kernel
theorem d_Packer_packBytes_2 : decode b_Packer_packBytes 2 = .ok (.isub, 1) := by decide +kernel
theorem d_Packer_packBytes_3 : decode b_Packer_packBytes 3 = .ok (.istore 4, 2) := by decide +kernel
theorem d_Packer_packBytes_5 : decode b_Packer_packBytes 5 = .ok (.iload 4, 2) := by decide +kernel
theorem d_Packer_packBytes_7 : decode b_Packer_packBytes 7 = .ok (.ifCond .lt 25, 3) := by decide +kernel
theorem d_Packer_packBytes_10 : decode b_Packer_packBytes 10 = .ok (.aload_n 0, 1) := by decide +kernel
theorem d_Packer_packBytes_11 : decode b_Packer_packBytes 11 = .ok (.lload_n 1, 1) := by decide +kernel
theorem d_Packer_packBytes_12 : decode b_Packer_packBytes 12 = .ok (.bipush 8, 2) := by decide +kernel
theorem d_Packer_packBytes_14 : decode b_Packer_packBytes 14 = .ok (.iload 4, 2) := by decide +kernel
theorem d_Packer_packBytes_16 : decode b_Packer_packBytes 16 = .ok (.imul, 1) := by decide +kernel
theorem d_Packer_packBytes_17 : decode b_Packer_packBytes 17 = .ok (.lushr, 1) := by decide +kernel
theorem d_Packer_packBytes_18 : decode b_Packer_packBytes 18 = .ok (.l2i, 1) := by decide +kernel
theorem d_Packer_packBytes_19 : decode b_Packer_packBytes 19 = .ok (.sipush 255, 3) := by decide +kernel
theorem d_Packer_packBytes_22 : decode b_Packer_packBytes 22 = .ok (.iand, 1) := by decide +kernel
theorem d_Packer_packBytes_23 : decode b_Packer_packBytes 23 = .ok (.invokevirtual 84, 3) := by decide +kernel
theorem d_Packer_packBytes_26 : decode b_Packer_packBytes 26 = .ok (.iinc 4 (-1), 3) := by decide +kernel
theorem d_Packer_packBytes_29 : decode b_Packer_packBytes 29 = .ok (.goto (-24), 3) := by decide +kernel
theorem d_Packer_packBytes_32 : decode b_Packer_packBytes 32 = .ok (.return_, 1) := by decide +kernel
theorem d_Packer_packVarint_0 : decode b_Packer_packVarint 0 = .ok (.lload_n 1, 1) := by decide +kernel
theorem d_Packer_packVarint_1 : decode b_Packer_packVarint 1 = .ok (.lstore_n 3, 1) := by decide +kernel
theorem d_Packer_packVarint_2 : decode b_Packer_packVarint 2 = .ok (.iconst 1, 1) := by decide +kernel
theorem d_Packer_packVarint_3 : decode b_Packer_packVarint 3 = .ok (.istore 5, 2) := by decide +kernel
theorem d_Packer_packVarint_5 : decode b_Packer_packVarint 5 = .ok (.iload 5, 2) := by decide +kernel
theorem d_Packer_packVarint_7 : decode b_Packer_packVarint 7 = .ok (.bipush 7, 2) := by decide +kernel
theorem d_Packer_packVarint_9 : decode b_Packer_packVarint 9 = .ok (.if_icmp .ge 36, 3) := by decide +kernel
theorem d_Packer_packVarint_12 : decode b_Packer_packVarint 12 = .ok (.lload_n 3, 1) := by decide +kernel
theorem d_Packer_packVarint_13 : decode b_Packer_packVarint 13 = .ok (.ldc2_w 127, 3) := by decide +kernel
theorem d_Packer_packVarint_16 : decode b_Packer_packVarint 16 = .ok (.lcmp, 1) := by decide +kernel
theorem d_Packer_packVarint_17 : decode b_Packer_packVarint 17 = .ok (.ifCond .le 28, 3) := by decide +kernel
theorem d_Packer_packVarint_20 : decode b_Packer_packVarint 20 = .ok (.aload_n 0, 1) := by decide +kernel
theorem d_Packer_packVarint_21 : decode b_Packer_packVarint 21 = .ok (.lload_n 3, 1) := by decide +kernel
theorem d_Packer_packVarint_22 : decode b_Packer_packVarint 22 = .ok (.ldc2_w 127, 3) := by decide +kernel
theorem d_Packer_packVarint_25 : decode b_Packer_packVarint 25 = .ok (.land, 1) := by decide +kernel
theorem d_Packer_packVarint_26 : decode b_Packer_packVarint 26 = .ok (.l2i, 1) := by decide +kernel
theorem d_Packer_packVarint_27 : decode b_Packer_packVarint 27 = .ok (.sipush 128, 3) := by decide +kernel
theorem d_Packer_packVarint_30 : decode b_Packer_packVarint 30 = .ok (.ior, 1) := by decide +kernel
theorem d_Packer_packVarint_31 : decode b_Packer_packVarint 31 = .ok (.invokevirtual 84, 3) := by decide +kernel
theorem d_Packer_packVarint_34 : decode b_Packer_packVarint 34 = .ok (.lload_n 3, 1) := by decide +kernel
theorem d_Packer_packVarint_35 : decode b_Packer_packVarint 35 = .ok (.bipush 7, 2) := by decide +kernel
theorem d_Packer_packVarint_37 : decode b_Packer_packVarint 37 = .ok (.lushr, 1) := by decide +kernel
theorem d_Packer_packVarint_38 : decode b_Packer_packVarint 38 = .ok (.lstore_n 3, 1) := by decide +kernel
theorem d_Packer_packVarint_39 : decode b_Packer_packVarint 39 = .ok (.iinc 5 1, 3) := by decide +kernel
theorem d_Packer_packVarint_42 : decode b_Packer_packVarint 42 = .ok (.goto (-37), 3) := by decide +kernel
theorem d_Packer_packVarint_45 : decode b_Packer_packVarint 45 = .ok (.aload_n 0, 1) := by decide +kernel
theorem d_Packer_packVarint_46 : decode b_Packer_packVarint 46 = .ok (.lload_n 3, 1) := by decide +kernel
theorem d_Packer_packVarint_47 : decode b_Packer_packVarint 47 = .ok (.ldc2_w 127, 3) := by decide +kernel
theorem d_Packer_packVarint_50 : decode b_Packer_packVarint 50 = .ok (.land, 1) := by decide +kernel
theorem d_Packer_packVarint_51 : decode b_Packer_packVarint 51 = .ok (.l2i, 1) := by decide +kernel
theorem d_Packer_packVarint_52 : decode b_Packer_packVarint 52 = .ok (.invokevirtual 84, 3) := by decide +kernel
theorem d_Packer_packVarint_55 : decode b_Packer_packVarint 55 = .ok (.return_, 1) := by decide +kernel
theorem d_Packer_packByte_0 : decode b_Packer_packByte 0 = .ok (.aload_n 0, 1) := by decide +kernel
theorem d_Packer_packByte_1 : decode b_Packer_packByte 1 = .ok (.dup, 1) := by decide +kernel
theorem d_Packer_packByte_2 : decode b_Packer_packByte 2 = .ok (.getfield 22, 3) := by decide +kernel
theorem d_Packer_packByte_5 : decode b_Packer_packByte 5 = .ok (.iconst 1, 1) := by decide +kernel
theorem d_Packer_packByte_6 : decode b_Packer_packByte 6 = .ok (.iadd, 1) := by decide +kernel
theorem d_Packer_packByte_7 : decode b_Packer_packByte 7 = .ok (.putfield 22, 3) := by decide +kernel
theorem d_Packer_packByte_10 : decode b_Packer_packByte 10 = .ok (.aload_n 0, 1) := by decide +kernel
theorem d_Packer_packByte_11 : decode b_Packer_packByte 11 = .ok (.getfield 72, 3) := by decide +kernel
theorem d_Packer_packByte_14 : decode b_Packer_packByte 14 = .ok (.ifCond .eq 11, 3) := by decide +kernel
theorem d_Packer_packByte_17 : decode b_Packer_packByte 17 = .ok (.aload_n 0, 1) := by decide +kernel
theorem d_Packer_packByte_18 : decode b_Packer_packByte 18 = .ok (.getfield 18, 3) := by decide +kernel
theorem d_Packer_packByte_21 : decode b_Packer_packByte 21 = .ok (.iload_n 1, 1) := by decide +kernel
theorem d_Packer_packByte_22 : decode b_Packer_packByte 22 = .ok (.invokevirtual 129, 3) := by decide +kernel
theorem d_Packer_packByte_25 : decode b_Packer_packByte 25 = .ok (.return_, 1) := by decide +kernel
