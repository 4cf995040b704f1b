theorem d_Bytes_init_0 : decode b_Bytes_init 0 = .ok (.aload_n 0, 1) := by decide +kernel
theorem d_Bytes_init_1 : decode b_Bytes_init 1 = .ok (.invokespecial 3, 3) := by decide +kernel
theorem d_Bytes_init_4 : decode b_Bytes_init 4 = .ok (.aload_n 0, 1) := by decide +kernel
theorem d_Bytes_init_5 : decode b_Bytes_init 5 = .ok (.sipush 5000, 3) := by decide +kernel
theorem d_Bytes_init_8 : decode b_Bytes_init 8 = .ok (.newarray .int, 2) := by decide +kernel
theorem d_Bytes_init_10 : decode b_Bytes_init 10 = .ok (.putfield 9, 3) := by decide +kernel
theorem d_Bytes_init_13 : decode b_Bytes_init 13 = .ok (.return_, 1) := by decide +kernel
theorem d_Bytes_length_0 : decode b_Bytes_length 0 = .ok (.aload_n 0, 1) := by decide +kernel
theorem d_Bytes_length_1 : decode b_Bytes_length 1 = .ok (.getfield 15, 3) := by decide +kernel
theorem d_Bytes_length_4 : decode b_Bytes_length 4 = .ok (.ireturn, 1) := by decide +kernel
theorem d_Bytes_get_0 : decode b_Bytes_get 0 = .ok (.iload_n 1, 1) := by decide +kernel
theorem d_Bytes_get_1 : decode b_Bytes_get 1 = .ok (.ifCond .lt 27, 3) := by decide +kernel
theorem d_Bytes_get_4 : decode b_Bytes_get 4 = .ok (.iload_n 1, 1) := by decide +kernel
theorem d_Bytes_get_5 : decode b_Bytes_get 5 = .ok (.aload_n 0, 1) := by decide +kernel
theorem d_Bytes_get_6 : decode b_Bytes_get 6 = .ok (.getfield 15, 3) := by decide +kernel
theorem d_Bytes_get_9 : decode b_Bytes_get 9 = .ok (.if_icmp .ge 19, 3) := by decide +kernel
theorem d_Bytes_get_12 : decode b_Bytes_get 12 = .ok (.iload_n 1, 1) := by decide +kernel
theorem d_Bytes_get_13 : decode b_Bytes_get 13 = .ok (.sipush 5000, 3) := by decide +kernel
theorem d_Bytes_get_16 : decode b_Bytes_get 16 = .ok (.if_icmp .ge 12, 3) := by decide +kernel
theorem d_Bytes_get_19 : decode b_Bytes_get 19 = .ok (.aload_n 0, 1) := by decide +kernel
theorem d_Bytes_get_20 : decode b_Bytes_get 20 = .ok (.getfield 9, 3) := by decide +kernel
theorem d_Bytes_get_23 : decode b_Bytes_get 23 = .ok (.iload_n 1, 1) := by decide +kernel
theorem d_Bytes_get_24 : decode b_Bytes_get 24 = .ok (.iaload, 1) := by decide +kernel
theorem d_Bytes_get_25 : decode b_Bytes_get 25 = .ok (.goto 4, 3) := by decide +kernel
theorem d_Bytes_get_28 : decode b_Bytes_get 28 = .ok (.iconst 0, 1) := by decide +kernel
theorem d_Bytes_get_29 : decode b_Bytes_get 29 = .ok (.ireturn, 1) := by decide +kernel
theorem d_Bytes_put_0 : decode b_Bytes_put 0 = .ok (.iload_n 1, 1) := by decide +kernel
theorem d_Bytes_put_1 : decode b_Bytes_put 1 = .ok (.ifCond .lt 25, 3) := by decide +kernel
theorem d_Bytes_put_4 : decode b_Bytes_put 4 = .ok (.iload_n 1, 1) := by decide +kernel
theorem d_Bytes_put_5 : decode b_Bytes_put 5 = .ok (.aload_n 0, 1) := by decide +kernel
theorem d_Bytes_put_6 : decode b_Bytes_put 6 = .ok (.getfield 15, 3) := by decide +kernel
theorem d_Bytes_put_9 : decode b_Bytes_put 9 = .ok (.if_icmp .ge 17, 3) := by decide +kernel
theorem d_Bytes_put_12 : decode b_Bytes_put 12 = .ok (.iload_n 1, 1) := by decide +kernel
theorem d_Bytes_put_13 : decode b_Bytes_put 13 = .ok (.sipush 5000, 3) := by decide +kernel
theorem d_Bytes_put_16 : decode b_Bytes_put 16 = .ok (.if_icmp .ge 10, 3) := by decide +kernel
theorem d_Bytes_put_19 : decode b_Bytes_put 19 = .ok (.aload_n 0, 1) := by decide +kernel
theorem d_Bytes_put_20 : decode b_Bytes_put 20 = .ok (.getfield 9, 3) := by decide +kernel
theorem d_Bytes_put_23 : decode b_Bytes_put 23 = .ok (.iload_n 1, 1) := by decide +kernel
theorem d_Bytes_put_24 : decode b_Bytes_put 24 = .ok (.iload_n 2, 1) := by decide +kernel
theorem d_Bytes_put_25 : decode b_Bytes_put 25 = .ok (.iastore, 1) := by decide +kernel
theorem d_Bytes_put_26 : decode b_Bytes_put 26 = .ok (.return_, 1) := by decide +kernel
theorem d_Bytes_append_0 : decode b_Bytes_append 0 = .ok (.aload_n 0, 1) := by decide +kernel
theorem d_Bytes_append_1 : decode b_Bytes_append 1 = .ok (.getfield 15, 3) := by decide +kernel
theorem d_Bytes_append_4 : decode b_Bytes_append 4 = .ok (.ifCond .lt 33, 3) := by decide +kernel
theorem d_Bytes_append_7 : decode b_Bytes_append 7 = .ok (.aload_n 0, 1) := by decide +kernel
theorem d_Bytes_append_8 : decode b_Bytes_append 8 = .ok (.getfield 15, 3) := by decide +kernel
theorem d_Bytes_append_11 : decode b_Bytes_append 11 = .ok (.sipush 5000, 3) := by decide +kernel
theorem d_Bytes_append_14 : decode b_Bytes_append 14 = .ok (.if_icmp .ge 23, 3) := by decide +kernel
theorem d_Bytes_append_17 : decode b_Bytes_append 17 = .ok (.aload_n 0, 1) := by decide +kernel
theorem d_Bytes_append_18 : decode b_Bytes_append 18 = .ok (.getfield 9, 3) := by decide +kernel
theorem d_Bytes_append_21 : decode b_Bytes_append 21 = .ok (.aload_n 0, 1) := by decide +kernel
theorem d_Bytes_append_22 : decode b_Bytes_append 22 = .ok (.getfield 15, 3) := by decide +kernel
theorem d_Bytes_append_25 : decode b_Bytes_append 25 = .ok (.iload_n 1, 1) := by decide +kernel
theorem d_Bytes_append_26 : decode b_Bytes_append 26 = .ok (.iastore, 1) := by decide +kernel
theorem d_Bytes_append_27 : decode b_Bytes_append 27 = .ok (.aload_n 0, 1) := by decide +kernel
theorem d_Bytes_append_28 : decode b_Bytes_append 28 = .ok (.dup, 1) := by decide +kernel
theorem d_Bytes_append_29 : decode b_Bytes_append 29 = .ok (.getfield 15, 3) := by decide +kernel
theorem d_Bytes_append_32 : decode b_Bytes_append 32 = .ok (.iconst 1, 1) := by decide +kernel
theorem d_Bytes_append_33 : decode b_Bytes_append 33 = .ok (.iadd, 1) := by decide +kernel
theorem d_Bytes_append_34 : decode b_Bytes_append 34 = .ok (.putfield 15, 3) := by decide +kernel
theorem d_Bytes_append_37 : decode b_Bytes_append 37 = .ok (.return_, 1) := by decide +kernel
theorem d_Bytes_keepFirst_0 : decode b_Bytes_keepFirst 0 = .ok (.iload_n 1, 1) := by decide +kernel
theorem d_Bytes_keepFirst_1 : decode b_Bytes_keepFirst 1 = .ok (.ifCond .lt 16, 3) := by decide +kernel
theorem d_Bytes_keepFirst_4 : decode b_Bytes_keepFirst 4 = .ok (.iload_n 1, 1) := by decide +kernel
theorem d_Bytes_keepFirst_5 : decode b_Bytes_keepFirst 5 = .ok (.aload_n 0, 1) := by decide +kernel
theorem d_Bytes_keepFirst_6 : decode b_Bytes_keepFirst 6 = .ok (.getfield 15, 3) := by decide +kernel
theorem d_Bytes_keepFirst_9 : decode b_Bytes_keepFirst 9 = .ok (.if_icmp .ge 8, 3) := by decide +kernel
theorem d_Bytes_keepFirst_12 : decode b_Bytes_keepFirst 12 = .ok (.aload_n 0, 1) := by decide +kernel
theorem d_Bytes_keepFirst_13 : decode b_Bytes_keepFirst 13 = .ok (.iload_n 1, 1) := by decide +kernel
theorem d_Bytes_keepFirst_14 : decode b_Bytes_keepFirst 14 = .ok (.putfield 15, 3) := by decide +kernel
theorem d_Bytes_keepFirst_17 : decode b_Bytes_keepFirst 17 = .ok (.return_, 1) := by decide +kernel
