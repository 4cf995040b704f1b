theorem d_Past_init_0 : decode b_Past_init 0 = .ok (.aload_n 0, 1) := by decide +kernel
theorem d_Past_init_1 : decode b_Past_init 1 = .ok (.invokespecial 3, 3) := by decide +kernel
theorem d_Past_init_4 : decode b_Past_init 4 = .ok (.aload_n 0, 1) := by decide +kernel
theorem d_Past_init_5 : decode b_Past_init 5 = .ok (.sipush 300, 3) := by decide +kernel
theorem d_Past_init_8 : decode b_Past_init 8 = .ok (.newarray .int, 2) := by decide +kernel
theorem d_Past_init_10 : decode b_Past_init 10 = .ok (.putfield 9, 3) := by decide +kernel
theorem d_Past_init_13 : decode b_Past_init 13 = .ok (.aload_n 0, 1) := by decide +kernel
theorem d_Past_init_14 : decode b_Past_init 14 = .ok (.iconst (-1), 1) := by decide +kernel
theorem d_Past_init_15 : decode b_Past_init 15 = .ok (.putfield 15, 3) := by decide +kernel
theorem d_Past_init_18 : decode b_Past_init 18 = .ok (.return_, 1) := by decide +kernel
theorem d_Past_forget_0 : decode b_Past_forget 0 = .ok (.aload_n 0, 1) := by decide +kernel
theorem d_Past_forget_1 : decode b_Past_forget 1 = .ok (.iconst 0, 1) := by decide +kernel
theorem d_Past_forget_2 : decode b_Past_forget 2 = .ok (.putfield 19, 3) := by decide +kernel
theorem d_Past_forget_5 : decode b_Past_forget 5 = .ok (.aload_n 0, 1) := by decide +kernel
theorem d_Past_forget_6 : decode b_Past_forget 6 = .ok (.iconst (-1), 1) := by decide +kernel
theorem d_Past_forget_7 : decode b_Past_forget 7 = .ok (.putfield 15, 3) := by decide +kernel
theorem d_Past_forget_10 : decode b_Past_forget 10 = .ok (.return_, 1) := by decide +kernel
theorem d_Past_note_0 : decode b_Past_note 0 = .ok (.iload_n 1, 1) := by decide +kernel
theorem d_Past_note_1 : decode b_Past_note 1 = .ok (.iconst 3, 1) := by decide +kernel
theorem d_Past_note_2 : decode b_Past_note 2 = .ok (.if_icmp .ne 8, 3) := by decide +kernel
theorem d_Past_note_5 : decode b_Past_note 5 = .ok (.aload_n 0, 1) := by decide +kernel
theorem d_Past_note_6 : decode b_Past_note 6 = .ok (.iload_n 2, 1) := by decide +kernel
theorem d_Past_note_7 : decode b_Past_note 7 = .ok (.putfield 15, 3) := by decide +kernel
theorem d_Past_note_10 : decode b_Past_note 10 = .ok (.iload_n 1, 1) := by decide +kernel
theorem d_Past_note_11 : decode b_Past_note 11 = .ok (.iconst 1, 1) := by decide +kernel
theorem d_Past_note_12 : decode b_Past_note 12 = .ok (.if_icmp .ne 40, 3) := by decide +kernel
theorem d_Past_note_15 : decode b_Past_note 15 = .ok (.aload_n 0, 1) := by decide +kernel
theorem d_Past_note_16 : decode b_Past_note 16 = .ok (.getfield 19, 3) := by decide +kernel
theorem d_Past_note_19 : decode b_Past_note 19 = .ok (.ifCond .lt 33, 3) := by decide +kernel
theorem d_Past_note_22 : decode b_Past_note 22 = .ok (.aload_n 0, 1) := by decide +kernel
theorem d_Past_note_23 : decode b_Past_note 23 = .ok (.getfield 19, 3) := by decide +kernel
theorem d_Past_note_26 : decode b_Past_note 26 = .ok (.sipush 300, 3) := by decide +kernel
theorem d_Past_note_29 : decode b_Past_note 29 = .ok (.if_icmp .ge 23, 3) := by decide +kernel
theorem d_Past_note_32 : decode b_Past_note 32 = .ok (.aload_n 0, 1) := by decide +kernel
theorem d_Past_note_33 : decode b_Past_note 33 = .ok (.getfield 9, 3) := by decide +kernel
theorem d_Past_note_36 : decode b_Past_note 36 = .ok (.aload_n 0, 1) := by decide +kernel
theorem d_Past_note_37 : decode b_Past_note 37 = .ok (.getfield 19, 3) := by decide +kernel
theorem d_Past_note_40 : decode b_Past_note 40 = .ok (.iload_n 2, 1) := by decide +kernel
theorem d_Past_note_41 : decode b_Past_note 41 = .ok (.iastore, 1) := by decide +kernel
theorem d_Past_note_42 : decode b_Past_note 42 = .ok (.aload_n 0, 1) := by decide +kernel
theorem d_Past_note_43 : decode b_Past_note 43 = .ok (.dup, 1) := by decide +kernel
theorem d_Past_note_44 : decode b_Past_note 44 = .ok (.getfield 19, 3) := by decide +kernel
theorem d_Past_note_47 : decode b_Past_note 47 = .ok (.iconst 1, 1) := by decide +kernel
theorem d_Past_note_48 : decode b_Past_note 48 = .ok (.iadd, 1) := by decide +kernel
theorem d_Past_note_49 : decode b_Past_note 49 = .ok (.putfield 19, 3) := by decide +kernel
theorem d_Past_note_52 : decode b_Past_note 52 = .ok (.return_, 1) := by decide +kernel
theorem d_Past_latestClock_0 : decode b_Past_latestClock 0 = .ok (.aload_n 0, 1) := by decide +kernel
theorem d_Past_latestClock_1 : decode b_Past_latestClock 1 = .ok (.getfield 15, 3) := by decide +kernel
theorem d_Past_latestClock_4 : decode b_Past_latestClock 4 = .ok (.ireturn, 1) := by decide +kernel
theorem d_Past_typedBefore_0 : decode b_Past_typedBefore 0 = .ok (.lload_n 1, 1) := by decide +kernel
theorem d_Past_typedBefore_1 : decode b_Past_typedBefore 1 = .ok (.lconst 1, 1) := by decide +kernel
theorem d_Past_typedBefore_2 : decode b_Past_typedBefore 2 = .ok (.lcmp, 1) := by decide +kernel
theorem d_Past_typedBefore_3 : decode b_Past_typedBefore 3 = .ok (.ifCond .lt 21, 3) := by decide +kernel
theorem d_Past_typedBefore_6 : decode b_Past_typedBefore 6 = .ok (.lload_n 1, 1) := by decide +kernel
theorem d_Past_typedBefore_7 : decode b_Past_typedBefore 7 = .ok (.aload_n 0, 1) := by decide +kernel
theorem d_Past_typedBefore_8 : decode b_Past_typedBefore 8 = .ok (.getfield 19, 3) := by decide +kernel
theorem d_Past_typedBefore_11 : decode b_Past_typedBefore 11 = .ok (.i2l, 1) := by decide +kernel
theorem d_Past_typedBefore_12 : decode b_Past_typedBefore 12 = .ok (.lcmp, 1) := by decide +kernel
theorem d_Past_typedBefore_13 : decode b_Past_typedBefore 13 = .ok (.ifCond .gt 11, 3) := by decide +kernel
theorem d_Past_typedBefore_16 : decode b_Past_typedBefore 16 = .ok (.lload_n 1, 1) := by decide +kernel
theorem d_Past_typedBefore_17 : decode b_Past_typedBefore 17 = .ok (.ldc2_w 22, 3) := by decide +kernel
theorem d_Past_typedBefore_20 : decode b_Past_typedBefore 20 = .ok (.lcmp, 1) := by decide +kernel
theorem d_Past_typedBefore_21 : decode b_Past_typedBefore 21 = .ok (.ifCond .le 5, 3) := by decide +kernel
theorem d_Past_typedBefore_24 : decode b_Past_typedBefore 24 = .ok (.iconst (-1), 1) := by decide +kernel
theorem d_Past_typedBefore_25 : decode b_Past_typedBefore 25 = .ok (.ireturn, 1) := by decide +kernel
theorem d_Past_typedBefore_26 : decode b_Past_typedBefore 26 = .ok (.aload_n 0, 1) := by decide +kernel
theorem d_Past_typedBefore_27 : decode b_Past_typedBefore 27 = .ok (.getfield 19, 3) := by decide +kernel
theorem d_Past_typedBefore_30 : decode b_Past_typedBefore 30 = .ok (.lload_n 1, 1) := by decide +kernel
theorem d_Past_typedBefore_31 : decode b_Past_typedBefore 31 = .ok (.l2i, 1) := by decide +kernel
theorem d_Past_typedBefore_32 : decode b_Past_typedBefore 32 = .ok (.isub, 1) := by decide +kernel
theorem d_Past_typedBefore_33 : decode b_Past_typedBefore 33 = .ok (.istore_n 3, 1) := by decide +kernel
theorem d_Past_typedBefore_34 : decode b_Past_typedBefore 34 = .ok (.iload_n 3, 1) := by decide +kernel
theorem d_Past_typedBefore_35 : decode b_Past_typedBefore 35 = .ok (.sipush 300, 3) := by decide +kernel
theorem d_Past_typedBefore_38 : decode b_Past_typedBefore 38 = .ok (.if_icmp .ge 12, 3) := by decide +kernel
theorem d_Past_typedBefore_41 : decode b_Past_typedBefore 41 = .ok (.aload_n 0, 1) := by decide +kernel
theorem d_Past_typedBefore_42 : decode b_Past_typedBefore 42 = .ok (.getfield 9, 3) := by decide +kernel
theorem d_Past_typedBefore_45 : decode b_Past_typedBefore 45 = .ok (.iload_n 3, 1) := by decide +kernel
theorem d_Past_typedBefore_46 : decode b_Past_typedBefore 46 = .ok (.iaload, 1) := by decide +kernel
theorem d_Past_typedBefore_47 : decode b_Past_typedBefore 47 = .ok (.goto 4, 3) := by decide +kernel
theorem d_Past_typedBefore_50 : decode b_Past_typedBefore 50 = .ok (.iconst (-1), 1) := by decide +kernel
theorem d_Past_typedBefore_51 : decode b_Past_typedBefore 51 = .ok (.ireturn, 1) := by decide +kernel
