theorem d_Events_init_0 : decode b_Events_init 0 = .ok (.aload_n 0, 1) := by decide +kernel
theorem d_Events_init_1 : decode b_Events_init 1 = .ok (.invokespecial 3, 3) := by decide +kernel
theorem d_Events_init_4 : decode b_Events_init 4 = .ok (.aload_n 0, 1) := by decide +kernel
theorem d_Events_init_5 : decode b_Events_init 5 = .ok (.sipush 300, 3) := by decide +kernel
theorem d_Events_init_8 : decode b_Events_init 8 = .ok (.newarray .int, 2) := by decide +kernel
theorem d_Events_init_10 : decode b_Events_init 10 = .ok (.putfield 9, 3) := by decide +kernel
theorem d_Events_init_13 : decode b_Events_init 13 = .ok (.aload_n 0, 1) := by decide +kernel
theorem d_Events_init_14 : decode b_Events_init 14 = .ok (.sipush 300, 3) := by decide +kernel
theorem d_Events_init_17 : decode b_Events_init 17 = .ok (.newarray .long, 2) := by decide +kernel
theorem d_Events_init_19 : decode b_Events_init 19 = .ok (.putfield 15, 3) := by decide +kernel
theorem d_Events_init_22 : decode b_Events_init 22 = .ok (.aload_n 0, 1) := by decide +kernel
theorem d_Events_init_23 : decode b_Events_init 23 = .ok (.sipush 300, 3) := by decide +kernel
theorem d_Events_init_26 : decode b_Events_init 26 = .ok (.newarray .long, 2) := by decide +kernel
theorem d_Events_init_28 : decode b_Events_init 28 = .ok (.putfield 19, 3) := by decide +kernel
theorem d_Events_init_31 : decode b_Events_init 31 = .ok (.aload_n 0, 1) := by decide +kernel
theorem d_Events_init_32 : decode b_Events_init 32 = .ok (.sipush 300, 3) := by decide +kernel
theorem d_Events_init_35 : decode b_Events_init 35 = .ok (.newarray .int, 2) := by decide +kernel
theorem d_Events_init_37 : decode b_Events_init 37 = .ok (.putfield 22, 3) := by decide +kernel
theorem d_Events_init_40 : decode b_Events_init 40 = .ok (.return_, 1) := by decide +kernel
theorem d_Events_number_0 : decode b_Events_number 0 = .ok (.aload_n 0, 1) := by decide +kernel
theorem d_Events_number_1 : decode b_Events_number 1 = .ok (.getfield 25, 3) := by decide +kernel
theorem d_Events_number_4 : decode b_Events_number 4 = .ok (.ireturn, 1) := by decide +kernel
theorem d_Events_has_0 : decode b_Events_has 0 = .ok (.iload_n 1, 1) := by decide +kernel
theorem d_Events_has_1 : decode b_Events_has 1 = .ok (.ifCond .lt 22, 3) := by decide +kernel
theorem d_Events_has_4 : decode b_Events_has 4 = .ok (.iload_n 1, 1) := by decide +kernel
theorem d_Events_has_5 : decode b_Events_has 5 = .ok (.aload_n 0, 1) := by decide +kernel
theorem d_Events_has_6 : decode b_Events_has 6 = .ok (.getfield 25, 3) := by decide +kernel
theorem d_Events_has_9 : decode b_Events_has 9 = .ok (.if_icmp .ge 14, 3) := by decide +kernel
theorem d_Events_has_12 : decode b_Events_has 12 = .ok (.iload_n 1, 1) := by decide +kernel
theorem d_Events_has_13 : decode b_Events_has 13 = .ok (.sipush 300, 3) := by decide +kernel
theorem d_Events_has_16 : decode b_Events_has 16 = .ok (.if_icmp .ge 7, 3) := by decide +kernel
theorem d_Events_has_19 : decode b_Events_has 19 = .ok (.iconst 1, 1) := by decide +kernel
theorem d_Events_has_20 : decode b_Events_has 20 = .ok (.goto 4, 3) := by decide +kernel
theorem d_Events_has_23 : decode b_Events_has 23 = .ok (.iconst 0, 1) := by decide +kernel
theorem d_Events_has_24 : decode b_Events_has 24 = .ok (.ireturn, 1) := by decide +kernel
theorem d_Events_kind_0 : decode b_Events_kind 0 = .ok (.aload_n 0, 1) := by decide +kernel
theorem d_Events_kind_1 : decode b_Events_kind 1 = .ok (.iload_n 1, 1) := by decide +kernel
theorem d_Events_kind_2 : decode b_Events_kind 2 = .ok (.invokevirtual 29, 3) := by decide +kernel
theorem d_Events_kind_5 : decode b_Events_kind 5 = .ok (.ifCond .eq 12, 3) := by decide +kernel
theorem d_Events_kind_8 : decode b_Events_kind 8 = .ok (.aload_n 0, 1) := by decide +kernel
theorem d_Events_kind_9 : decode b_Events_kind 9 = .ok (.getfield 9, 3) := by decide +kernel
theorem d_Events_kind_12 : decode b_Events_kind 12 = .ok (.iload_n 1, 1) := by decide +kernel
theorem d_Events_kind_13 : decode b_Events_kind 13 = .ok (.iaload, 1) := by decide +kernel
theorem d_Events_kind_14 : decode b_Events_kind 14 = .ok (.goto 4, 3) := by decide +kernel
theorem d_Events_kind_17 : decode b_Events_kind 17 = .ok (.iconst 0, 1) := by decide +kernel
theorem d_Events_kind_18 : decode b_Events_kind 18 = .ok (.ireturn, 1) := by decide +kernel
theorem d_Events_difference_0 : decode b_Events_difference 0 = .ok (.aload_n 0, 1) := by decide +kernel
theorem d_Events_difference_1 : decode b_Events_difference 1 = .ok (.iload_n 1, 1) := by decide +kernel
theorem d_Events_difference_2 : decode b_Events_difference 2 = .ok (.invokevirtual 29, 3) := by decide +kernel
theorem d_Events_difference_5 : decode b_Events_difference 5 = .ok (.ifCond .eq 12, 3) := by decide +kernel
theorem d_Events_difference_8 : decode b_Events_difference 8 = .ok (.aload_n 0, 1) := by decide +kernel
theorem d_Events_difference_9 : decode b_Events_difference 9 = .ok (.getfield 15, 3) := by decide +kernel
theorem d_Events_difference_12 : decode b_Events_difference 12 = .ok (.iload_n 1, 1) := by decide +kernel
theorem d_Events_difference_13 : decode b_Events_difference 13 = .ok (.laload, 1) := by decide +kernel
theorem d_Events_difference_14 : decode b_Events_difference 14 = .ok (.goto 4, 3) := by decide +kernel
theorem d_Events_difference_17 : decode b_Events_difference 17 = .ok (.lconst 0, 1) := by decide +kernel
theorem d_Events_difference_18 : decode b_Events_difference 18 = .ok (.lreturn, 1) := by decide +kernel
theorem d_Events_a_0 : decode b_Events_a 0 = .ok (.aload_n 0, 1) := by decide +kernel
theorem d_Events_a_1 : decode b_Events_a 1 = .ok (.iload_n 1, 1) := by decide +kernel
theorem d_Events_a_2 : decode b_Events_a 2 = .ok (.invokevirtual 29, 3) := by decide +kernel
theorem d_Events_a_5 : decode b_Events_a 5 = .ok (.ifCond .eq 12, 3) := by decide +kernel
theorem d_Events_a_8 : decode b_Events_a 8 = .ok (.aload_n 0, 1) := by decide +kernel
theorem d_Events_a_9 : decode b_Events_a 9 = .ok (.getfield 19, 3) := by decide +kernel
theorem d_Events_a_12 : decode b_Events_a 12 = .ok (.iload_n 1, 1) := by decide +kernel
theorem d_Events_a_13 : decode b_Events_a 13 = .ok (.laload, 1) := by decide +kernel
theorem d_Events_a_14 : decode b_Events_a 14 = .ok (.goto 4, 3) := by decide +kernel
theorem d_Events_a_17 : decode b_Events_a 17 = .ok (.lconst 0, 1) := by decide +kernel
theorem d_Events_a_18 : decode b_Events_a 18 = .ok (.lreturn, 1) := by decide +kernel
theorem d_Events_b_0 : decode b_Events_b 0 = .ok (.aload_n 0, 1) := by decide +kernel
theorem d_Events_b_1 : decode b_Events_b 1 = .ok (.iload_n 1, 1) := by decide +kernel
theorem d_Events_b_2 : decode b_Events_b 2 = .ok (.invokevirtual 29, 3) := by decide +kernel
theorem d_Events_b_5 : decode b_Events_b 5 = .ok (.ifCond .eq 12, 3) := by decide +kernel
theorem d_Events_b_8 : decode b_Events_b 8 = .ok (.aload_n 0, 1) := by decide +kernel
theorem d_Events_b_9 : decode b_Events_b 9 = .ok (.getfield 22, 3) := by decide +kernel
theorem d_Events_b_12 : decode b_Events_b 12 = .ok (.iload_n 1, 1) := by decide +kernel
theorem d_Events_b_13 : decode b_Events_b 13 = .ok (.iaload, 1) := by decide +kernel
theorem d_Events_b_14 : decode b_Events_b 14 = .ok (.goto 4, 3) := by decide +kernel
theorem d_Events_b_17 : decode b_Events_b 17 = .ok (.iconst 0, 1) := by decide +kernel
theorem d_Events_b_18 : decode b_Events_b 18 = .ok (.ireturn, 1) := by decide +kernel
theorem d_Events_append_0 : decode b_Events_append 0 = .ok (.aload_n 0, 1) := by decide +kernel
theorem d_Events_append_1 : decode b_Events_append 1 = .ok (.getfield 25, 3) := by decide +kernel
theorem d_Events_append_4 : decode b_Events_append 4 = .ok (.ifCond .lt 13, 3) := by decide +kernel
theorem d_Events_append_7 : decode b_Events_append 7 = .ok (.aload_n 0, 1) := by decide +kernel
theorem d_Events_append_8 : decode b_Events_append 8 = .ok (.getfield 25, 3) := by decide +kernel
theorem d_Events_append_11 : decode b_Events_append 11 = .ok (.sipush 300, 3) := by decide +kernel
theorem d_Events_append_14 : decode b_Events_append 14 = .ok (.if_icmp .lt 4, 3) := by decide +kernel
theorem d_Events_append_17 : decode b_Events_append 17 = .ok (.return_, 1) := by decide +kernel
theorem d_Events_append_18 : decode b_Events_append 18 = .ok (.aload_n 0, 1) := by decide +kernel
theorem d_Events_append_19 : decode b_Events_append 19 = .ok (.getfield 9, 3) := by decide +kernel
theorem d_Events_append_22 : decode b_Events_append 22 = .ok (.aload_n 0, 1) := by decide +kernel
theorem d_Events_append_23 : decode b_Events_append 23 = .ok (.getfield 25, 3) := by decide +kernel
theorem d_Events_append_26 : decode b_Events_append 26 = .ok (.iload_n 1, 1) := by decide +kernel
theorem d_Events_append_27 : decode b_Events_append 27 = .ok (.iastore, 1) := by decide +kernel
theorem d_Events_append_28 : decode b_Events_append 28 = .ok (.aload_n 0, 1) := by decide +kernel
theorem d_Events_append_29 : decode b_Events_append 29 = .ok (.getfield 15, 3) := by decide +kernel
theorem d_Events_append_32 : decode b_Events_append 32 = .ok (.aload_n 0, 1) := by decide +kernel
theorem d_Events_append_33 : decode b_Events_append 33 = .ok (.getfield 25, 3) := by decide +kernel
theorem d_Events_append_36 : decode b_Events_append 36 = .ok (.lload_n 2, 1) := by decide +kernel
theorem d_Events_append_37 : decode b_Events_append 37 = .ok (.lastore, 1) := by decide +kernel
theorem d_Events_append_38 : decode b_Events_append 38 = .ok (.aload_n 0, 1) := by decide +kernel
theorem d_Events_append_39 : decode b_Events_append 39 = .ok (.getfield 19, 3) := by decide +kernel
theorem d_Events_append_42 : decode b_Events_append 42 = .ok (.aload_n 0, 1) := by decide +kernel
theorem d_Events_append_43 : decode b_Events_append 43 = .ok (.getfield 25, 3) := by decide +kernel
theorem d_Events_append_46 : decode b_Events_append 46 = .ok (.lload 4, 2) := by decide +kernel
theorem d_Events_append_48 : decode b_Events_append 48 = .ok (.lastore, 1) := by decide +kernel
theorem d_Events_append_49 : decode b_Events_append 49 = .ok (.aload_n 0, 1) := by decide +kernel
theorem d_Events_append_50 : decode b_Events_append 50 = .ok (.getfield 22, 3) := by decide +kernel
theorem d_Events_append_53 : decode b_Events_append 53 = .ok (.aload_n 0, 1) := by decide +kernel
theorem d_Events_append_54 : decode b_Events_append 54 = .ok (.getfield 25, 3) := by decide +kernel
theorem d_Events_append_57 : decode b_Events_append 57 = .ok (.iload 6, 2) := by decide +kernel
theorem d_Events_append_59 : decode b_Events_append 59 = .ok (.iastore, 1) := by decide +kernel
theorem d_Events_append_60 : decode b_Events_append 60 = .ok (.aload_n 0, 1) := by decide +kernel
theorem d_Events_append_61 : decode b_Events_append 61 = .ok (.dup, 1) := by decide +kernel
theorem d_Events_append_62 : decode b_Events_append 62 = .ok (.getfield 25, 3) := by decide +kernel
theorem d_Events_append_65 : decode b_Events_append 65 = .ok (.iconst 1, 1) := by decide +kernel
theorem d_Events_append_66 : decode b_Events_append 66 = .ok (.iadd, 1) := by decide +kernel
theorem d_Events_append_67 : decode b_Events_append 67 = .ok (.putfield 25, 3) := by decide +kernel
theorem d_Events_append_70 : decode b_Events_append 70 = .ok (.return_, 1) := by decide +kernel
theorem d_Events_keepFirst_0 : decode b_Events_keepFirst 0 = .ok (.iload_n 1, 1) := by decide +kernel
theorem d_Events_keepFirst_1 : decode b_Events_keepFirst 1 = .ok (.ifCond .lt 16, 3) := by decide +kernel
theorem d_Events_keepFirst_4 : decode b_Events_keepFirst 4 = .ok (.iload_n 1, 1) := by decide +kernel
theorem d_Events_keepFirst_5 : decode b_Events_keepFirst 5 = .ok (.aload_n 0, 1) := by decide +kernel
theorem d_Events_keepFirst_6 : decode b_Events_keepFirst 6 = .ok (.getfield 25, 3) := by decide +kernel
theorem d_Events_keepFirst_9 : decode b_Events_keepFirst 9 = .ok (.if_icmp .ge 8, 3) := by decide +kernel
theorem d_Events_keepFirst_12 : decode b_Events_keepFirst 12 = .ok (.aload_n 0, 1) := by decide +kernel
theorem d_Events_keepFirst_13 : decode b_Events_keepFirst 13 = .ok (.iload_n 1, 1) := by decide +kernel
theorem d_Events_keepFirst_14 : decode b_Events_keepFirst 14 = .ok (.putfield 25, 3) := by decide +kernel
theorem d_Events_keepFirst_17 : decode b_Events_keepFirst 17 = .ok (.return_, 1) := by decide +kernel
theorem d_Events_bringTheSame_0 : decode b_Events_bringTheSame 0 = .ok (.aload_n 0, 1) := by decide +kernel
theorem d_Events_bringTheSame_1 : decode b_Events_bringTheSame 1 = .ok (.iload_n 1, 1) := by decide +kernel
theorem d_Events_bringTheSame_2 : decode b_Events_bringTheSame 2 = .ok (.invokevirtual 29, 3) := by decide +kernel
theorem d_Events_bringTheSame_5 : decode b_Events_bringTheSame 5 = .ok (.ifCond .eq 61, 3) := by decide +kernel
theorem d_Events_bringTheSame_8 : decode b_Events_bringTheSame 8 = .ok (.aload_n 0, 1) := by decide +kernel
theorem d_Events_bringTheSame_9 : decode b_Events_bringTheSame 9 = .ok (.iload_n 2, 1) := by decide +kernel
theorem d_Events_bringTheSame_10 : decode b_Events_bringTheSame 10 = .ok (.invokevirtual 29, 3) := by decide +kernel
theorem d_Events_bringTheSame_13 : decode b_Events_bringTheSame 13 = .ok (.ifCond .eq 53, 3) := by decide +kernel
theorem d_Events_bringTheSame_16 : decode b_Events_bringTheSame 16 = .ok (.aload_n 0, 1) := by decide +kernel
theorem d_Events_bringTheSame_17 : decode b_Events_bringTheSame 17 = .ok (.getfield 9, 3) := by decide +kernel
theorem d_Events_bringTheSame_20 : decode b_Events_bringTheSame 20 = .ok (.iload_n 1, 1) := by decide +kernel
theorem d_Events_bringTheSame_21 : decode b_Events_bringTheSame 21 = .ok (.iaload, 1) := by decide +kernel
theorem d_Events_bringTheSame_22 : decode b_Events_bringTheSame 22 = .ok (.aload_n 0, 1) := by decide +kernel
theorem d_Events_bringTheSame_23 : decode b_Events_bringTheSame 23 = .ok (.getfield 9, 3) := by decide +kernel
theorem d_Events_bringTheSame_26 : decode b_Events_bringTheSame 26 = .ok (.iload_n 2, 1) := by decide +kernel
theorem d_Events_bringTheSame_27 : decode b_Events_bringTheSame 27 = .ok (.iaload, 1) := by decide +kernel
theorem d_Events_bringTheSame_28 : decode b_Events_bringTheSame 28 = .ok (.if_icmp .ne 38, 3) := by decide +kernel
theorem d_Events_bringTheSame_31 : decode b_Events_bringTheSame 31 = .ok (.aload_n 0, 1) := by decide +kernel
theorem d_Events_bringTheSame_32 : decode b_Events_bringTheSame 32 = .ok (.getfield 19, 3) := by decide +kernel
theorem d_Events_bringTheSame_35 : decode b_Events_bringTheSame 35 = .ok (.iload_n 1, 1) := by decide +kernel
theorem d_Events_bringTheSame_36 : decode b_Events_bringTheSame 36 = .ok (.laload, 1) := by decide +kernel
theorem d_Events_bringTheSame_37 : decode b_Events_bringTheSame 37 = .ok (.aload_n 0, 1) := by decide +kernel
theorem d_Events_bringTheSame_38 : decode b_Events_bringTheSame 38 = .ok (.getfield 19, 3) := by decide +kernel
theorem d_Events_bringTheSame_41 : decode b_Events_bringTheSame 41 = .ok (.iload_n 2, 1) := by decide +kernel
theorem d_Events_bringTheSame_42 : decode b_Events_bringTheSame 42 = .ok (.laload, 1) := by decide +kernel
theorem d_Events_bringTheSame_43 : decode b_Events_bringTheSame 43 = .ok (.lcmp, 1) := by decide +kernel
theorem d_Events_bringTheSame_44 : decode b_Events_bringTheSame 44 = .ok (.ifCond .ne 22, 3) := by decide +kernel
theorem d_Events_bringTheSame_47 : decode b_Events_bringTheSame 47 = .ok (.aload_n 0, 1) := by decide +kernel
theorem d_Events_bringTheSame_48 : decode b_Events_bringTheSame 48 = .ok (.getfield 22, 3) := by decide +kernel
theorem d_Events_bringTheSame_51 : decode b_Events_bringTheSame 51 = .ok (.iload_n 1, 1) := by decide +kernel
theorem d_Events_bringTheSame_52 : decode b_Events_bringTheSame 52 = .ok (.iaload, 1) := by decide +kernel
theorem d_Events_bringTheSame_53 : decode b_Events_bringTheSame 53 = .ok (.aload_n 0, 1) := by decide +kernel
theorem d_Events_bringTheSame_54 : decode b_Events_bringTheSame 54 = .ok (.getfield 22, 3) := by decide +kernel
theorem d_Events_bringTheSame_57 : decode b_Events_bringTheSame 57 = .ok (.iload_n 2, 1) := by decide +kernel
theorem d_Events_bringTheSame_58 : decode b_Events_bringTheSame 58 = .ok (.iaload, 1) := by decide +kernel
theorem d_Events_bringTheSame_59 : decode b_Events_bringTheSame 59 = .ok (.if_icmp .ne 7, 3) := by decide +kernel
theorem d_Events_bringTheSame_62 : decode b_Events_bringTheSame 62 = .ok (.iconst 1, 1) := by decide +kernel
theorem d_Events_bringTheSame_63 : decode b_Events_bringTheSame 63 = .ok (.goto 4, 3) := by decide +kernel
theorem d_Events_bringTheSame_66 : decode b_Events_bringTheSame 66 = .ok (.iconst 0, 1) := by decide +kernel
theorem d_Events_bringTheSame_67 : decode b_Events_bringTheSame 67 = .ok (.ireturn, 1) := by decide +kernel
theorem d_Events_hasDifferenceBefore_0 : decode b_Events_hasDifferenceBefore 0 = .ok (.aload_n 0, 1) := by decide +kernel
theorem d_Events_hasDifferenceBefore_1 : decode b_Events_hasDifferenceBefore 1 = .ok (.iload_n 1, 1) := by decide +kernel
theorem d_Events_hasDifferenceBefore_2 : decode b_Events_hasDifferenceBefore 2 = .ok (.invokevirtual 33, 3) := by decide +kernel
theorem d_Events_hasDifferenceBefore_5 : decode b_Events_hasDifferenceBefore 5 = .ok (.aload_n 0, 1) := by decide +kernel
theorem d_Events_hasDifferenceBefore_6 : decode b_Events_hasDifferenceBefore 6 = .ok (.iload_n 1, 1) := by decide +kernel
theorem d_Events_hasDifferenceBefore_7 : decode b_Events_hasDifferenceBefore 7 = .ok (.iconst 1, 1) := by decide +kernel
theorem d_Events_hasDifferenceBefore_8 : decode b_Events_hasDifferenceBefore 8 = .ok (.isub, 1) := by decide +kernel
theorem d_Events_hasDifferenceBefore_9 : decode b_Events_hasDifferenceBefore 9 = .ok (.invokevirtual 33, 3) := by decide +kernel
theorem d_Events_hasDifferenceBefore_12 : decode b_Events_hasDifferenceBefore 12 = .ok (.lcmp, 1) := by decide +kernel
theorem d_Events_hasDifferenceBefore_13 : decode b_Events_hasDifferenceBefore 13 = .ok (.ifCond .ne 7, 3) := by decide +kernel
theorem d_Events_hasDifferenceBefore_16 : decode b_Events_hasDifferenceBefore 16 = .ok (.iconst 1, 1) := by decide +kernel
theorem d_Events_hasDifferenceBefore_17 : decode b_Events_hasDifferenceBefore 17 = .ok (.goto 4, 3) := by decide +kernel
theorem d_Events_hasDifferenceBefore_20 : decode b_Events_hasDifferenceBefore 20 = .ok (.iconst 0, 1) := by decide +kernel
theorem d_Events_hasDifferenceBefore_21 : decode b_Events_hasDifferenceBefore 21 = .ok (.ireturn, 1) := by decide +kernel
theorem d_Events_isLikeBefore_0 : decode b_Events_isLikeBefore 0 = .ok (.aload_n 0, 1) := by decide +kernel
theorem d_Events_isLikeBefore_1 : decode b_Events_isLikeBefore 1 = .ok (.iload_n 1, 1) := by decide +kernel
theorem d_Events_isLikeBefore_2 : decode b_Events_isLikeBefore 2 = .ok (.invokevirtual 37, 3) := by decide +kernel
theorem d_Events_isLikeBefore_5 : decode b_Events_isLikeBefore 5 = .ok (.ifCond .eq 18, 3) := by decide +kernel
theorem d_Events_isLikeBefore_8 : decode b_Events_isLikeBefore 8 = .ok (.aload_n 0, 1) := by decide +kernel
theorem d_Events_isLikeBefore_9 : decode b_Events_isLikeBefore 9 = .ok (.iload_n 1, 1) := by decide +kernel
theorem d_Events_isLikeBefore_10 : decode b_Events_isLikeBefore 10 = .ok (.iload_n 1, 1) := by decide +kernel
theorem d_Events_isLikeBefore_11 : decode b_Events_isLikeBefore 11 = .ok (.iconst 1, 1) := by decide +kernel
theorem d_Events_isLikeBefore_12 : decode b_Events_isLikeBefore 12 = .ok (.isub, 1) := by decide +kernel
theorem d_Events_isLikeBefore_13 : decode b_Events_isLikeBefore 13 = .ok (.invokevirtual 40, 3) := by decide +kernel
theorem d_Events_isLikeBefore_16 : decode b_Events_isLikeBefore 16 = .ok (.ifCond .eq 7, 3) := by decide +kernel
theorem d_Events_isLikeBefore_19 : decode b_Events_isLikeBefore 19 = .ok (.iconst 1, 1) := by decide +kernel
theorem d_Events_isLikeBefore_20 : decode b_Events_isLikeBefore 20 = .ok (.goto 4, 3) := by decide +kernel
theorem d_Events_isLikeBefore_23 : decode b_Events_isLikeBefore 23 = .ok (.iconst 0, 1) := by decide +kernel
theorem d_Events_isLikeBefore_24 : decode b_Events_isLikeBefore 24 = .ok (.ireturn, 1) := by decide +kernel
theorem d_Events_sumUpTo_0 : decode b_Events_sumUpTo 0 = .ok (.lconst 0, 1) := by decide +kernel
theorem d_Events_sumUpTo_1 : decode b_Events_sumUpTo 1 = .ok (.lstore_n 2, 1) := by decide +kernel
theorem d_Events_sumUpTo_2 : decode b_Events_sumUpTo 2 = .ok (.iconst 0, 1) := by decide +kernel
theorem d_Events_sumUpTo_3 : decode b_Events_sumUpTo 3 = .ok (.istore 4, 2) := by decide +kernel
theorem d_Events_sumUpTo_5 : decode b_Events_sumUpTo 5 = .ok (.iload 4, 2) := by decide +kernel
theorem d_Events_sumUpTo_7 : decode b_Events_sumUpTo 7 = .ok (.iload_n 1, 1) := by decide +kernel
theorem d_Events_sumUpTo_8 : decode b_Events_sumUpTo 8 = .ok (.if_icmp .gt 27, 3) := by decide +kernel
theorem d_Events_sumUpTo_11 : decode b_Events_sumUpTo 11 = .ok (.iload 4, 2) := by decide +kernel
theorem d_Events_sumUpTo_13 : decode b_Events_sumUpTo 13 = .ok (.aload_n 0, 1) := by decide +kernel
theorem d_Events_sumUpTo_14 : decode b_Events_sumUpTo 14 = .ok (.getfield 25, 3) := by decide +kernel
theorem d_Events_sumUpTo_17 : decode b_Events_sumUpTo 17 = .ok (.if_icmp .ge 18, 3) := by decide +kernel
theorem d_Events_sumUpTo_20 : decode b_Events_sumUpTo 20 = .ok (.lload_n 2, 1) := by decide +kernel
theorem d_Events_sumUpTo_21 : decode b_Events_sumUpTo 21 = .ok (.aload_n 0, 1) := by decide +kernel
theorem d_Events_sumUpTo_22 : decode b_Events_sumUpTo 22 = .ok (.iload 4, 2) := by decide +kernel
theorem d_Events_sumUpTo_24 : decode b_Events_sumUpTo 24 = .ok (.invokevirtual 33, 3) := by decide +kernel
theorem d_Events_sumUpTo_27 : decode b_Events_sumUpTo 27 = .ok (.ladd, 1) := by decide +kernel
theorem d_Events_sumUpTo_28 : decode b_Events_sumUpTo 28 = .ok (.lstore_n 2, 1) := by decide +kernel
theorem d_Events_sumUpTo_29 : decode b_Events_sumUpTo 29 = .ok (.iinc 4 1, 3) := by decide +kernel
theorem d_Events_sumUpTo_32 : decode b_Events_sumUpTo 32 = .ok (.goto (-27), 3) := by decide +kernel
theorem d_Events_sumUpTo_35 : decode b_Events_sumUpTo 35 = .ok (.lload_n 2, 1) := by decide +kernel
theorem d_Events_sumUpTo_36 : decode b_Events_sumUpTo 36 = .ok (.lreturn, 1) := by decide +kernel
theorem d_Events_lastWithSumUpTo_0 : decode b_Events_lastWithSumUpTo 0 = .ok (.lconst 0, 1) := by decide +kernel
theorem d_Events_lastWithSumUpTo_1 : decode b_Events_lastWithSumUpTo 1 = .ok (.lstore_n 3, 1) := by decide +kernel
theorem d_Events_lastWithSumUpTo_2 : decode b_Events_lastWithSumUpTo 2 = .ok (.iconst 0, 1) := by decide +kernel
theorem d_Events_lastWithSumUpTo_3 : decode b_Events_lastWithSumUpTo 3 = .ok (.istore 5, 2) := by decide +kernel
theorem d_Events_lastWithSumUpTo_5 : decode b_Events_lastWithSumUpTo 5 = .ok (.iload 5, 2) := by decide +kernel
theorem d_Events_lastWithSumUpTo_7 : decode b_Events_lastWithSumUpTo 7 = .ok (.aload_n 0, 1) := by decide +kernel
theorem d_Events_lastWithSumUpTo_8 : decode b_Events_lastWithSumUpTo 8 = .ok (.getfield 25, 3) := by decide +kernel
theorem d_Events_lastWithSumUpTo_11 : decode b_Events_lastWithSumUpTo 11 = .ok (.if_icmp .ge 29, 3) := by decide +kernel
theorem d_Events_lastWithSumUpTo_14 : decode b_Events_lastWithSumUpTo 14 = .ok (.lload_n 3, 1) := by decide +kernel
theorem d_Events_lastWithSumUpTo_15 : decode b_Events_lastWithSumUpTo 15 = .ok (.aload_n 0, 1) := by decide +kernel
theorem d_Events_lastWithSumUpTo_16 : decode b_Events_lastWithSumUpTo 16 = .ok (.iload 5, 2) := by decide +kernel
theorem d_Events_lastWithSumUpTo_18 : decode b_Events_lastWithSumUpTo 18 = .ok (.invokevirtual 33, 3) := by decide +kernel
theorem d_Events_lastWithSumUpTo_21 : decode b_Events_lastWithSumUpTo 21 = .ok (.ladd, 1) := by decide +kernel
theorem d_Events_lastWithSumUpTo_22 : decode b_Events_lastWithSumUpTo 22 = .ok (.lstore_n 3, 1) := by decide +kernel
theorem d_Events_lastWithSumUpTo_23 : decode b_Events_lastWithSumUpTo 23 = .ok (.lload_n 3, 1) := by decide +kernel
theorem d_Events_lastWithSumUpTo_24 : decode b_Events_lastWithSumUpTo 24 = .ok (.lload_n 1, 1) := by decide +kernel
theorem d_Events_lastWithSumUpTo_25 : decode b_Events_lastWithSumUpTo 25 = .ok (.lcmp, 1) := by decide +kernel
theorem d_Events_lastWithSumUpTo_26 : decode b_Events_lastWithSumUpTo 26 = .ok (.ifCond .le 8, 3) := by decide +kernel
theorem d_Events_lastWithSumUpTo_29 : decode b_Events_lastWithSumUpTo 29 = .ok (.iload 5, 2) := by decide +kernel
theorem d_Events_lastWithSumUpTo_31 : decode b_Events_lastWithSumUpTo 31 = .ok (.iconst 1, 1) := by decide +kernel
theorem d_Events_lastWithSumUpTo_32 : decode b_Events_lastWithSumUpTo 32 = .ok (.isub, 1) := by decide +kernel
theorem d_Events_lastWithSumUpTo_33 : decode b_Events_lastWithSumUpTo 33 = .ok (.ireturn, 1) := by decide +kernel
theorem d_Events_lastWithSumUpTo_34 : decode b_Events_lastWithSumUpTo 34 = .ok (.iinc 5 1, 3) := by decide +kernel
theorem d_Events_lastWithSumUpTo_37 : decode b_Events_lastWithSumUpTo 37 = .ok (.goto (-32), 3) := by decide +kernel
theorem d_Events_lastWithSumUpTo_40 : decode b_Events_lastWithSumUpTo 40 = .ok (.aload_n 0, 1) := by decide +kernel
theorem d_Events_lastWithSumUpTo_41 : decode b_Events_lastWithSumUpTo 41 = .ok (.getfield 25, 3) := by decide +kernel
theorem d_Events_lastWithSumUpTo_44 : decode b_Events_lastWithSumUpTo 44 = .ok (.iconst 1, 1) := by decide +kernel
theorem d_Events_lastWithSumUpTo_45 : decode b_Events_lastWithSumUpTo 45 = .ok (.isub, 1) := by decide +kernel
theorem d_Events_lastWithSumUpTo_46 : decode b_Events_lastWithSumUpTo 46 = .ok (.ireturn, 1) := by decide +kernel
