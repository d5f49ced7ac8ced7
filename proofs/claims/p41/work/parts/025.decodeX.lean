theorem dX1_init_0 : decode cX1_init 0 = .ok (.aload_n 0, 1) := by decide +kernel
theorem dX1_init_1 : decode cX1_init 1 = .ok (.invokespecial 3, 3) := by decide +kernel
theorem dX1_init_4 : decode cX1_init 4 = .ok (.aload_n 0, 1) := by decide +kernel
theorem dX1_init_5 : decode cX1_init 5 = .ok (.bipush 16, 2) := by decide +kernel
theorem dX1_init_7 : decode cX1_init 7 = .ok (.newarray .int, 2) := by decide +kernel
theorem dX1_init_9 : decode cX1_init 9 = .ok (.putfield 9, 3) := by decide +kernel
theorem dX1_init_12 : decode cX1_init 12 = .ok (.aload_n 0, 1) := by decide +kernel
theorem dX1_init_13 : decode cX1_init 13 = .ok (.bipush 16, 2) := by decide +kernel
theorem dX1_init_15 : decode cX1_init 15 = .ok (.newarray .int, 2) := by decide +kernel
theorem dX1_init_17 : decode cX1_init 17 = .ok (.putfield 15, 3) := by decide +kernel
theorem dX1_init_20 : decode cX1_init 20 = .ok (.return_, 1) := by decide +kernel
theorem dX1_makeEmpty_0 : decode cX1_makeEmpty 0 = .ok (.aload_n 0, 1) := by decide +kernel
theorem dX1_makeEmpty_1 : decode cX1_makeEmpty 1 = .ok (.iconst 0, 1) := by decide +kernel
theorem dX1_makeEmpty_2 : decode cX1_makeEmpty 2 = .ok (.putfield 18, 3) := by decide +kernel
theorem dX1_makeEmpty_5 : decode cX1_makeEmpty 5 = .ok (.aload_n 0, 1) := by decide +kernel
theorem dX1_makeEmpty_6 : decode cX1_makeEmpty 6 = .ok (.getfield 9, 3) := by decide +kernel
theorem dX1_makeEmpty_9 : decode cX1_makeEmpty 9 = .ok (.iconst 0, 1) := by decide +kernel
theorem dX1_makeEmpty_10 : decode cX1_makeEmpty 10 = .ok (.invokestatic 22, 3) := by decide +kernel
theorem dX1_makeEmpty_13 : decode cX1_makeEmpty 13 = .ok (.aload_n 0, 1) := by decide +kernel
theorem dX1_makeEmpty_14 : decode cX1_makeEmpty 14 = .ok (.getfield 15, 3) := by decide +kernel
theorem dX1_makeEmpty_17 : decode cX1_makeEmpty 17 = .ok (.iconst (-1), 1) := by decide +kernel
theorem dX1_makeEmpty_18 : decode cX1_makeEmpty 18 = .ok (.invokestatic 22, 3) := by decide +kernel
theorem dX1_makeEmpty_21 : decode cX1_makeEmpty 21 = .ok (.return_, 1) := by decide +kernel
theorem dX1_takeOver_0 : decode cX1_takeOver 0 = .ok (.aload_n 1, 1) := by decide +kernel
theorem dX1_takeOver_1 : decode cX1_takeOver 1 = .ok (.getfield 9, 3) := by decide +kernel
theorem dX1_takeOver_4 : decode cX1_takeOver 4 = .ok (.aload_n 0, 1) := by decide +kernel
theorem dX1_takeOver_5 : decode cX1_takeOver 5 = .ok (.getfield 9, 3) := by decide +kernel
theorem dX1_takeOver_8 : decode cX1_takeOver 8 = .ok (.invokestatic 26, 3) := by decide +kernel
theorem dX1_takeOver_11 : decode cX1_takeOver 11 = .ok (.aload_n 1, 1) := by decide +kernel
theorem dX1_takeOver_12 : decode cX1_takeOver 12 = .ok (.getfield 15, 3) := by decide +kernel
theorem dX1_takeOver_15 : decode cX1_takeOver 15 = .ok (.aload_n 0, 1) := by decide +kernel
theorem dX1_takeOver_16 : decode cX1_takeOver 16 = .ok (.getfield 15, 3) := by decide +kernel
theorem dX1_takeOver_19 : decode cX1_takeOver 19 = .ok (.invokestatic 26, 3) := by decide +kernel
theorem dX1_takeOver_22 : decode cX1_takeOver 22 = .ok (.aload_n 0, 1) := by decide +kernel
theorem dX1_takeOver_23 : decode cX1_takeOver 23 = .ok (.aload_n 1, 1) := by decide +kernel
theorem dX1_takeOver_24 : decode cX1_takeOver 24 = .ok (.getfield 18, 3) := by decide +kernel
theorem dX1_takeOver_27 : decode cX1_takeOver 27 = .ok (.putfield 18, 3) := by decide +kernel
theorem dX1_takeOver_30 : decode cX1_takeOver 30 = .ok (.return_, 1) := by decide +kernel
theorem dX1_add_0 : decode cX1_add 0 = .ok (.aload_n 0, 1) := by decide +kernel
theorem dX1_add_1 : decode cX1_add 1 = .ok (.getfield 18, 3) := by decide +kernel
theorem dX1_add_4 : decode cX1_add 4 = .ok (.istore_n 2, 1) := by decide +kernel
theorem dX1_add_5 : decode cX1_add 5 = .ok (.aload_n 0, 1) := by decide +kernel
theorem dX1_add_6 : decode cX1_add 6 = .ok (.getfield 9, 3) := by decide +kernel
theorem dX1_add_9 : decode cX1_add 9 = .ok (.iload_n 2, 1) := by decide +kernel
theorem dX1_add_10 : decode cX1_add 10 = .ok (.iload_n 1, 1) := by decide +kernel
theorem dX1_add_11 : decode cX1_add 11 = .ok (.invokestatic 30, 3) := by decide +kernel
theorem dX1_add_14 : decode cX1_add 14 = .ok (.aload_n 0, 1) := by decide +kernel
theorem dX1_add_15 : decode cX1_add 15 = .ok (.getfield 15, 3) := by decide +kernel
theorem dX1_add_18 : decode cX1_add 18 = .ok (.iload_n 2, 1) := by decide +kernel
theorem dX1_add_19 : decode cX1_add 19 = .ok (.iconst (-1), 1) := by decide +kernel
theorem dX1_add_20 : decode cX1_add 20 = .ok (.invokestatic 30, 3) := by decide +kernel
theorem dX1_add_23 : decode cX1_add 23 = .ok (.aload_n 0, 1) := by decide +kernel
theorem dX1_add_24 : decode cX1_add 24 = .ok (.dup, 1) := by decide +kernel
theorem dX1_add_25 : decode cX1_add 25 = .ok (.getfield 18, 3) := by decide +kernel
theorem dX1_add_28 : decode cX1_add 28 = .ok (.iconst 1, 1) := by decide +kernel
theorem dX1_add_29 : decode cX1_add 29 = .ok (.iadd, 1) := by decide +kernel
theorem dX1_add_30 : decode cX1_add 30 = .ok (.putfield 18, 3) := by decide +kernel
theorem dX1_add_33 : decode cX1_add 33 = .ok (.iload_n 2, 1) := by decide +kernel
theorem dX1_add_34 : decode cX1_add 34 = .ok (.ireturn, 1) := by decide +kernel
theorem dX1_isThere_0 : decode cX1_isThere 0 = .ok (.iload_n 1, 1) := by decide +kernel
theorem dX1_isThere_1 : decode cX1_isThere 1 = .ok (.ifCond .lt 15, 3) := by decide +kernel
theorem dX1_isThere_4 : decode cX1_isThere 4 = .ok (.iload_n 1, 1) := by decide +kernel
theorem dX1_isThere_5 : decode cX1_isThere 5 = .ok (.aload_n 0, 1) := by decide +kernel
theorem dX1_isThere_6 : decode cX1_isThere 6 = .ok (.getfield 18, 3) := by decide +kernel
theorem dX1_isThere_9 : decode cX1_isThere 9 = .ok (.if_icmp .ge 7, 3) := by decide +kernel
theorem dX1_isThere_12 : decode cX1_isThere 12 = .ok (.iconst 1, 1) := by decide +kernel
theorem dX1_isThere_13 : decode cX1_isThere 13 = .ok (.goto 4, 3) := by decide +kernel
theorem dX1_isThere_16 : decode cX1_isThere 16 = .ok (.iconst 0, 1) := by decide +kernel
theorem dX1_isThere_17 : decode cX1_isThere 17 = .ok (.ireturn, 1) := by decide +kernel
theorem dX1_weightOf_0 : decode cX1_weightOf 0 = .ok (.aload_n 0, 1) := by decide +kernel
theorem dX1_weightOf_1 : decode cX1_weightOf 1 = .ok (.getfield 9, 3) := by decide +kernel
theorem dX1_weightOf_4 : decode cX1_weightOf 4 = .ok (.iload_n 1, 1) := by decide +kernel
theorem dX1_weightOf_5 : decode cX1_weightOf 5 = .ok (.invokestatic 34, 3) := by decide +kernel
theorem dX1_weightOf_8 : decode cX1_weightOf 8 = .ok (.ireturn, 1) := by decide +kernel
theorem dX1_holderOf_0 : decode cX1_holderOf 0 = .ok (.aload_n 0, 1) := by decide +kernel
theorem dX1_holderOf_1 : decode cX1_holderOf 1 = .ok (.getfield 15, 3) := by decide +kernel
theorem dX1_holderOf_4 : decode cX1_holderOf 4 = .ok (.iload_n 1, 1) := by decide +kernel
theorem dX1_holderOf_5 : decode cX1_holderOf 5 = .ok (.invokestatic 34, 3) := by decide +kernel
theorem dX1_holderOf_8 : decode cX1_holderOf 8 = .ok (.ireturn, 1) := by decide +kernel
theorem dX1_depthOf_0 : decode cX1_depthOf 0 = .ok (.aload_n 0, 1) := by decide +kernel
theorem dX1_depthOf_1 : decode cX1_depthOf 1 = .ok (.getfield 15, 3) := by decide +kernel
theorem dX1_depthOf_4 : decode cX1_depthOf 4 = .ok (.iload_n 1, 1) := by decide +kernel
theorem dX1_depthOf_5 : decode cX1_depthOf 5 = .ok (.invokestatic 38, 3) := by decide +kernel
theorem dX1_depthOf_8 : decode cX1_depthOf 8 = .ok (.ireturn, 1) := by decide +kernel
theorem dX1_rootByHolders_0 : decode cX1_rootByHolders 0 = .ok (.aload_n 0, 1) := by decide +kernel
theorem dX1_rootByHolders_1 : decode cX1_rootByHolders 1 = .ok (.getfield 15, 3) := by decide +kernel
theorem dX1_rootByHolders_4 : decode cX1_rootByHolders 4 = .ok (.iload_n 1, 1) := by decide +kernel
theorem dX1_rootByHolders_5 : decode cX1_rootByHolders 5 = .ok (.invokestatic 41, 3) := by decide +kernel
theorem dX1_rootByHolders_8 : decode cX1_rootByHolders 8 = .ok (.ireturn, 1) := by decide +kernel
theorem dX1_sumByHolders_0 : decode cX1_sumByHolders 0 = .ok (.iconst 0, 1) := by decide +kernel
theorem dX1_sumByHolders_1 : decode cX1_sumByHolders 1 = .ok (.istore_n 2, 1) := by decide +kernel
theorem dX1_sumByHolders_2 : decode cX1_sumByHolders 2 = .ok (.iload_n 1, 1) := by decide +kernel
theorem dX1_sumByHolders_3 : decode cX1_sumByHolders 3 = .ok (.istore_n 3, 1) := by decide +kernel
theorem dX1_sumByHolders_4 : decode cX1_sumByHolders 4 = .ok (.iconst 0, 1) := by decide +kernel
theorem dX1_sumByHolders_5 : decode cX1_sumByHolders 5 = .ok (.istore 4, 2) := by decide +kernel
theorem dX1_sumByHolders_7 : decode cX1_sumByHolders 7 = .ok (.iload 4, 2) := by decide +kernel
theorem dX1_sumByHolders_9 : decode cX1_sumByHolders 9 = .ok (.bipush 16, 2) := by decide +kernel
theorem dX1_sumByHolders_11 : decode cX1_sumByHolders 11 = .ok (.if_icmp .ge 27, 3) := by decide +kernel
theorem dX1_sumByHolders_14 : decode cX1_sumByHolders 14 = .ok (.iload_n 3, 1) := by decide +kernel
theorem dX1_sumByHolders_15 : decode cX1_sumByHolders 15 = .ok (.ifCond .lt 23, 3) := by decide +kernel
theorem dX1_sumByHolders_18 : decode cX1_sumByHolders 18 = .ok (.iload_n 2, 1) := by decide +kernel
theorem dX1_sumByHolders_19 : decode cX1_sumByHolders 19 = .ok (.aload_n 0, 1) := by decide +kernel
theorem dX1_sumByHolders_20 : decode cX1_sumByHolders 20 = .ok (.iload_n 3, 1) := by decide +kernel
theorem dX1_sumByHolders_21 : decode cX1_sumByHolders 21 = .ok (.invokevirtual 44, 3) := by decide +kernel
theorem dX1_sumByHolders_24 : decode cX1_sumByHolders 24 = .ok (.iadd, 1) := by decide +kernel
theorem dX1_sumByHolders_25 : decode cX1_sumByHolders 25 = .ok (.istore_n 2, 1) := by decide +kernel
theorem dX1_sumByHolders_26 : decode cX1_sumByHolders 26 = .ok (.aload_n 0, 1) := by decide +kernel
theorem dX1_sumByHolders_27 : decode cX1_sumByHolders 27 = .ok (.iload_n 3, 1) := by decide +kernel
theorem dX1_sumByHolders_28 : decode cX1_sumByHolders 28 = .ok (.invokevirtual 48, 3) := by decide +kernel
theorem dX1_sumByHolders_31 : decode cX1_sumByHolders 31 = .ok (.istore_n 3, 1) := by decide +kernel
theorem dX1_sumByHolders_32 : decode cX1_sumByHolders 32 = .ok (.iinc 4 1, 3) := by decide +kernel
theorem dX1_sumByHolders_35 : decode cX1_sumByHolders 35 = .ok (.goto (-28), 3) := by decide +kernel
theorem dX1_sumByHolders_38 : decode cX1_sumByHolders 38 = .ok (.iload_n 2, 1) := by decide +kernel
theorem dX1_sumByHolders_39 : decode cX1_sumByHolders 39 = .ok (.ireturn, 1) := by decide +kernel
theorem dX1_jointByHolders_0 : decode cX1_jointByHolders 0 = .ok (.iload_n 1, 1) := by decide +kernel
theorem dX1_jointByHolders_1 : decode cX1_jointByHolders 1 = .ok (.istore_n 3, 1) := by decide +kernel
theorem dX1_jointByHolders_2 : decode cX1_jointByHolders 2 = .ok (.iconst 0, 1) := by decide +kernel
theorem dX1_jointByHolders_3 : decode cX1_jointByHolders 3 = .ok (.istore 4, 2) := by decide +kernel
theorem dX1_jointByHolders_5 : decode cX1_jointByHolders 5 = .ok (.iload 4, 2) := by decide +kernel
theorem dX1_jointByHolders_7 : decode cX1_jointByHolders 7 = .ok (.bipush 16, 2) := by decide +kernel
theorem dX1_jointByHolders_9 : decode cX1_jointByHolders 9 = .ok (.if_icmp .ge 33, 3) := by decide +kernel
theorem dX1_jointByHolders_12 : decode cX1_jointByHolders 12 = .ok (.iload_n 3, 1) := by decide +kernel
theorem dX1_jointByHolders_13 : decode cX1_jointByHolders 13 = .ok (.ifCond .lt 29, 3) := by decide +kernel
theorem dX1_jointByHolders_16 : decode cX1_jointByHolders 16 = .ok (.aload_n 0, 1) := by decide +kernel
theorem dX1_jointByHolders_17 : decode cX1_jointByHolders 17 = .ok (.getfield 15, 3) := by decide +kernel
theorem dX1_jointByHolders_20 : decode cX1_jointByHolders 20 = .ok (.iload_n 2, 1) := by decide +kernel
theorem dX1_jointByHolders_21 : decode cX1_jointByHolders 21 = .ok (.iload_n 3, 1) := by decide +kernel
theorem dX1_jointByHolders_22 : decode cX1_jointByHolders 22 = .ok (.invokestatic 51, 3) := by decide +kernel
theorem dX1_jointByHolders_25 : decode cX1_jointByHolders 25 = .ok (.ifCond .eq 5, 3) := by decide +kernel
theorem dX1_jointByHolders_28 : decode cX1_jointByHolders 28 = .ok (.iload_n 3, 1) := by decide +kernel
theorem dX1_jointByHolders_29 : decode cX1_jointByHolders 29 = .ok (.ireturn, 1) := by decide +kernel
theorem dX1_jointByHolders_30 : decode cX1_jointByHolders 30 = .ok (.aload_n 0, 1) := by decide +kernel
theorem dX1_jointByHolders_31 : decode cX1_jointByHolders 31 = .ok (.iload_n 3, 1) := by decide +kernel
theorem dX1_jointByHolders_32 : decode cX1_jointByHolders 32 = .ok (.invokevirtual 48, 3) := by decide +kernel
theorem dX1_jointByHolders_35 : decode cX1_jointByHolders 35 = .ok (.istore_n 3, 1) := by decide +kernel
theorem dX1_jointByHolders_36 : decode cX1_jointByHolders 36 = .ok (.iinc 4 1, 3) := by decide +kernel
theorem dX1_jointByHolders_39 : decode cX1_jointByHolders 39 = .ok (.goto (-34), 3) := by decide +kernel
theorem dX1_jointByHolders_42 : decode cX1_jointByHolders 42 = .ok (.bipush (-4), 2) := by decide +kernel
theorem dX1_jointByHolders_44 : decode cX1_jointByHolders 44 = .ok (.ireturn, 1) := by decide +kernel
theorem dX1_hangingAtOnce_0 : decode cX1_hangingAtOnce 0 = .ok (.iconst 0, 1) := by decide +kernel
theorem dX1_hangingAtOnce_1 : decode cX1_hangingAtOnce 1 = .ok (.istore_n 2, 1) := by decide +kernel
theorem dX1_hangingAtOnce_2 : decode cX1_hangingAtOnce 2 = .ok (.iconst 0, 1) := by decide +kernel
theorem dX1_hangingAtOnce_3 : decode cX1_hangingAtOnce 3 = .ok (.istore_n 3, 1) := by decide +kernel
theorem dX1_hangingAtOnce_4 : decode cX1_hangingAtOnce 4 = .ok (.iload_n 3, 1) := by decide +kernel
theorem dX1_hangingAtOnce_5 : decode cX1_hangingAtOnce 5 = .ok (.aload_n 0, 1) := by decide +kernel
theorem dX1_hangingAtOnce_6 : decode cX1_hangingAtOnce 6 = .ok (.getfield 18, 3) := by decide +kernel
theorem dX1_hangingAtOnce_9 : decode cX1_hangingAtOnce 9 = .ok (.if_icmp .ge 26, 3) := by decide +kernel
theorem dX1_hangingAtOnce_12 : decode cX1_hangingAtOnce 12 = .ok (.iload_n 2, 1) := by decide +kernel
theorem dX1_hangingAtOnce_13 : decode cX1_hangingAtOnce 13 = .ok (.aload_n 0, 1) := by decide +kernel
theorem dX1_hangingAtOnce_14 : decode cX1_hangingAtOnce 14 = .ok (.iload_n 3, 1) := by decide +kernel
theorem dX1_hangingAtOnce_15 : decode cX1_hangingAtOnce 15 = .ok (.invokevirtual 48, 3) := by decide +kernel
theorem dX1_hangingAtOnce_18 : decode cX1_hangingAtOnce 18 = .ok (.iload_n 1, 1) := by decide +kernel
theorem dX1_hangingAtOnce_19 : decode cX1_hangingAtOnce 19 = .ok (.if_icmp .ne 7, 3) := by decide +kernel
theorem dX1_hangingAtOnce_22 : decode cX1_hangingAtOnce 22 = .ok (.iconst 1, 1) := by decide +kernel
theorem dX1_hangingAtOnce_23 : decode cX1_hangingAtOnce 23 = .ok (.goto 4, 3) := by decide +kernel
theorem dX1_hangingAtOnce_26 : decode cX1_hangingAtOnce 26 = .ok (.iconst 0, 1) := by decide +kernel
theorem dX1_hangingAtOnce_27 : decode cX1_hangingAtOnce 27 = .ok (.iadd, 1) := by decide +kernel
theorem dX1_hangingAtOnce_28 : decode cX1_hangingAtOnce 28 = .ok (.istore_n 2, 1) := by decide +kernel
theorem dX1_hangingAtOnce_29 : decode cX1_hangingAtOnce 29 = .ok (.iinc 3 1, 3) := by decide +kernel
theorem dX1_hangingAtOnce_32 : decode cX1_hangingAtOnce 32 = .ok (.goto (-28), 3) := by decide +kernel
theorem dX1_hangingAtOnce_35 : decode cX1_hangingAtOnce 35 = .ok (.iload_n 2, 1) := by decide +kernel
theorem dX1_hangingAtOnce_36 : decode cX1_hangingAtOnce 36 = .ok (.ireturn, 1) := by decide +kernel
theorem dX1_hangingInAll_0 : decode cX1_hangingInAll 0 = .ok (.iconst 0, 1) := by decide +kernel
theorem dX1_hangingInAll_1 : decode cX1_hangingInAll 1 = .ok (.istore_n 2, 1) := by decide +kernel
theorem dX1_hangingInAll_2 : decode cX1_hangingInAll 2 = .ok (.iconst 0, 1) := by decide +kernel
theorem dX1_hangingInAll_3 : decode cX1_hangingInAll 3 = .ok (.istore_n 3, 1) := by decide +kernel
theorem dX1_hangingInAll_4 : decode cX1_hangingInAll 4 = .ok (.iload_n 3, 1) := by decide +kernel
theorem dX1_hangingInAll_5 : decode cX1_hangingInAll 5 = .ok (.aload_n 0, 1) := by decide +kernel
theorem dX1_hangingInAll_6 : decode cX1_hangingInAll 6 = .ok (.getfield 18, 3) := by decide +kernel
theorem dX1_hangingInAll_9 : decode cX1_hangingInAll 9 = .ok (.if_icmp .ge 34, 3) := by decide +kernel
theorem dX1_hangingInAll_12 : decode cX1_hangingInAll 12 = .ok (.iload_n 2, 1) := by decide +kernel
theorem dX1_hangingInAll_13 : decode cX1_hangingInAll 13 = .ok (.iload_n 3, 1) := by decide +kernel
theorem dX1_hangingInAll_14 : decode cX1_hangingInAll 14 = .ok (.iload_n 1, 1) := by decide +kernel
theorem dX1_hangingInAll_15 : decode cX1_hangingInAll 15 = .ok (.if_icmp .eq 19, 3) := by decide +kernel
theorem dX1_hangingInAll_18 : decode cX1_hangingInAll 18 = .ok (.aload_n 0, 1) := by decide +kernel
theorem dX1_hangingInAll_19 : decode cX1_hangingInAll 19 = .ok (.getfield 15, 3) := by decide +kernel
theorem dX1_hangingInAll_22 : decode cX1_hangingInAll 22 = .ok (.iload_n 3, 1) := by decide +kernel
theorem dX1_hangingInAll_23 : decode cX1_hangingInAll 23 = .ok (.iload_n 1, 1) := by decide +kernel
theorem dX1_hangingInAll_24 : decode cX1_hangingInAll 24 = .ok (.invokestatic 51, 3) := by decide +kernel
theorem dX1_hangingInAll_27 : decode cX1_hangingInAll 27 = .ok (.ifCond .eq 7, 3) := by decide +kernel
theorem dX1_hangingInAll_30 : decode cX1_hangingInAll 30 = .ok (.iconst 1, 1) := by decide +kernel
theorem dX1_hangingInAll_31 : decode cX1_hangingInAll 31 = .ok (.goto 4, 3) := by decide +kernel
theorem dX1_hangingInAll_34 : decode cX1_hangingInAll 34 = .ok (.iconst 0, 1) := by decide +kernel
theorem dX1_hangingInAll_35 : decode cX1_hangingInAll 35 = .ok (.iadd, 1) := by decide +kernel
theorem dX1_hangingInAll_36 : decode cX1_hangingInAll 36 = .ok (.istore_n 2, 1) := by decide +kernel
theorem dX1_hangingInAll_37 : decode cX1_hangingInAll 37 = .ok (.iinc 3 1, 3) := by decide +kernel
theorem dX1_hangingInAll_40 : decode cX1_hangingInAll 40 = .ok (.goto (-36), 3) := by decide +kernel
theorem dX1_hangingInAll_43 : decode cX1_hangingInAll 43 = .ok (.iload_n 2, 1) := by decide +kernel
theorem dX1_hangingInAll_44 : decode cX1_hangingInAll 44 = .ok (.ireturn, 1) := by decide +kernel
theorem dX1_sizeOfHang_0 : decode cX1_sizeOfHang 0 = .ok (.aload_n 0, 1) := by decide +kernel
theorem dX1_sizeOfHang_1 : decode cX1_sizeOfHang 1 = .ok (.aload_n 0, 1) := by decide +kernel
theorem dX1_sizeOfHang_2 : decode cX1_sizeOfHang 2 = .ok (.iload_n 1, 1) := by decide +kernel
theorem dX1_sizeOfHang_3 : decode cX1_sizeOfHang 3 = .ok (.invokevirtual 55, 3) := by decide +kernel
theorem dX1_sizeOfHang_6 : decode cX1_sizeOfHang 6 = .ok (.invokevirtual 58, 3) := by decide +kernel
theorem dX1_sizeOfHang_9 : decode cX1_sizeOfHang 9 = .ok (.iconst 1, 1) := by decide +kernel
theorem dX1_sizeOfHang_10 : decode cX1_sizeOfHang 10 = .ok (.iadd, 1) := by decide +kernel
theorem dX1_sizeOfHang_11 : decode cX1_sizeOfHang 11 = .ok (.ireturn, 1) := by decide +kernel
theorem dX1_countRoots_0 : decode cX1_countRoots 0 = .ok (.aload_n 0, 1) := by decide +kernel
theorem dX1_countRoots_1 : decode cX1_countRoots 1 = .ok (.iconst (-1), 1) := by decide +kernel
theorem dX1_countRoots_2 : decode cX1_countRoots 2 = .ok (.invokevirtual 61, 3) := by decide +kernel
theorem dX1_countRoots_5 : decode cX1_countRoots 5 = .ok (.ireturn, 1) := by decide +kernel
theorem dX1_sumOfDepths_0 : decode cX1_sumOfDepths 0 = .ok (.iconst 0, 1) := by decide +kernel
theorem dX1_sumOfDepths_1 : decode cX1_sumOfDepths 1 = .ok (.istore_n 1, 1) := by decide +kernel
theorem dX1_sumOfDepths_2 : decode cX1_sumOfDepths 2 = .ok (.iconst 0, 1) := by decide +kernel
theorem dX1_sumOfDepths_3 : decode cX1_sumOfDepths 3 = .ok (.istore_n 2, 1) := by decide +kernel
theorem dX1_sumOfDepths_4 : decode cX1_sumOfDepths 4 = .ok (.iload_n 2, 1) := by decide +kernel
theorem dX1_sumOfDepths_5 : decode cX1_sumOfDepths 5 = .ok (.aload_n 0, 1) := by decide +kernel
theorem dX1_sumOfDepths_6 : decode cX1_sumOfDepths 6 = .ok (.getfield 18, 3) := by decide +kernel
theorem dX1_sumOfDepths_9 : decode cX1_sumOfDepths 9 = .ok (.if_icmp .ge 17, 3) := by decide +kernel
theorem dX1_sumOfDepths_12 : decode cX1_sumOfDepths 12 = .ok (.iload_n 1, 1) := by decide +kernel
theorem dX1_sumOfDepths_13 : decode cX1_sumOfDepths 13 = .ok (.aload_n 0, 1) := by decide +kernel
theorem dX1_sumOfDepths_14 : decode cX1_sumOfDepths 14 = .ok (.iload_n 2, 1) := by decide +kernel
theorem dX1_sumOfDepths_15 : decode cX1_sumOfDepths 15 = .ok (.invokevirtual 64, 3) := by decide +kernel
theorem dX1_sumOfDepths_18 : decode cX1_sumOfDepths 18 = .ok (.iadd, 1) := by decide +kernel
theorem dX1_sumOfDepths_19 : decode cX1_sumOfDepths 19 = .ok (.istore_n 1, 1) := by decide +kernel
theorem dX1_sumOfDepths_20 : decode cX1_sumOfDepths 20 = .ok (.iinc 2 1, 3) := by decide +kernel
theorem dX1_sumOfDepths_23 : decode cX1_sumOfDepths 23 = .ok (.goto (-19), 3) := by decide +kernel
theorem dX1_sumOfDepths_26 : decode cX1_sumOfDepths 26 = .ok (.iload_n 1, 1) := by decide +kernel
theorem dX1_sumOfDepths_27 : decode cX1_sumOfDepths 27 = .ok (.ireturn, 1) := by decide +kernel
theorem dX1_sumOfWeights_0 : decode cX1_sumOfWeights 0 = .ok (.iconst 0, 1) := by decide +kernel
theorem dX1_sumOfWeights_1 : decode cX1_sumOfWeights 1 = .ok (.istore_n 1, 1) := by decide +kernel
theorem dX1_sumOfWeights_2 : decode cX1_sumOfWeights 2 = .ok (.iconst 0, 1) := by decide +kernel
theorem dX1_sumOfWeights_3 : decode cX1_sumOfWeights 3 = .ok (.istore_n 2, 1) := by decide +kernel
theorem dX1_sumOfWeights_4 : decode cX1_sumOfWeights 4 = .ok (.iload_n 2, 1) := by decide +kernel
theorem dX1_sumOfWeights_5 : decode cX1_sumOfWeights 5 = .ok (.aload_n 0, 1) := by decide +kernel
theorem dX1_sumOfWeights_6 : decode cX1_sumOfWeights 6 = .ok (.getfield 18, 3) := by decide +kernel
theorem dX1_sumOfWeights_9 : decode cX1_sumOfWeights 9 = .ok (.if_icmp .ge 17, 3) := by decide +kernel
theorem dX1_sumOfWeights_12 : decode cX1_sumOfWeights 12 = .ok (.iload_n 1, 1) := by decide +kernel
theorem dX1_sumOfWeights_13 : decode cX1_sumOfWeights 13 = .ok (.aload_n 0, 1) := by decide +kernel
theorem dX1_sumOfWeights_14 : decode cX1_sumOfWeights 14 = .ok (.iload_n 2, 1) := by decide +kernel
theorem dX1_sumOfWeights_15 : decode cX1_sumOfWeights 15 = .ok (.invokevirtual 44, 3) := by decide +kernel
theorem dX1_sumOfWeights_18 : decode cX1_sumOfWeights 18 = .ok (.iadd, 1) := by decide +kernel
theorem dX1_sumOfWeights_19 : decode cX1_sumOfWeights 19 = .ok (.istore_n 1, 1) := by decide +kernel
theorem dX1_sumOfWeights_20 : decode cX1_sumOfWeights 20 = .ok (.iinc 2 1, 3) := by decide +kernel
theorem dX1_sumOfWeights_23 : decode cX1_sumOfWeights 23 = .ok (.goto (-19), 3) := by decide +kernel
theorem dX1_sumOfWeights_26 : decode cX1_sumOfWeights 26 = .ok (.iload_n 1, 1) := by decide +kernel
theorem dX1_sumOfWeights_27 : decode cX1_sumOfWeights 27 = .ok (.ireturn, 1) := by decide +kernel
theorem dX1_blockOfRank_0 : decode cX1_blockOfRank 0 = .ok (.iconst 0, 1) := by decide +kernel
theorem dX1_blockOfRank_1 : decode cX1_blockOfRank 1 = .ok (.istore_n 2, 1) := by decide +kernel
theorem dX1_blockOfRank_2 : decode cX1_blockOfRank 2 = .ok (.iload_n 2, 1) := by decide +kernel
theorem dX1_blockOfRank_3 : decode cX1_blockOfRank 3 = .ok (.aload_n 0, 1) := by decide +kernel
theorem dX1_blockOfRank_4 : decode cX1_blockOfRank 4 = .ok (.getfield 18, 3) := by decide +kernel
theorem dX1_blockOfRank_7 : decode cX1_blockOfRank 7 = .ok (.if_icmp .ge 20, 3) := by decide +kernel
theorem dX1_blockOfRank_10 : decode cX1_blockOfRank 10 = .ok (.aload_n 0, 1) := by decide +kernel
theorem dX1_blockOfRank_11 : decode cX1_blockOfRank 11 = .ok (.iload_n 2, 1) := by decide +kernel
theorem dX1_blockOfRank_12 : decode cX1_blockOfRank 12 = .ok (.invokevirtual 67, 3) := by decide +kernel
theorem dX1_blockOfRank_15 : decode cX1_blockOfRank 15 = .ok (.iload_n 1, 1) := by decide +kernel
theorem dX1_blockOfRank_16 : decode cX1_blockOfRank 16 = .ok (.if_icmp .ne 5, 3) := by decide +kernel
theorem dX1_blockOfRank_19 : decode cX1_blockOfRank 19 = .ok (.iload_n 2, 1) := by decide +kernel
theorem dX1_blockOfRank_20 : decode cX1_blockOfRank 20 = .ok (.ireturn, 1) := by decide +kernel
theorem dX1_blockOfRank_21 : decode cX1_blockOfRank 21 = .ok (.iinc 2 1, 3) := by decide +kernel
theorem dX1_blockOfRank_24 : decode cX1_blockOfRank 24 = .ok (.goto (-22), 3) := by decide +kernel
theorem dX1_blockOfRank_27 : decode cX1_blockOfRank 27 = .ok (.iconst (-1), 1) := by decide +kernel
theorem dX1_blockOfRank_28 : decode cX1_blockOfRank 28 = .ok (.ireturn, 1) := by decide +kernel
theorem dX1_rankOf_0 : decode cX1_rankOf 0 = .ok (.iconst 0, 1) := by decide +kernel
theorem dX1_rankOf_1 : decode cX1_rankOf 1 = .ok (.istore_n 2, 1) := by decide +kernel
theorem dX1_rankOf_2 : decode cX1_rankOf 2 = .ok (.iconst 0, 1) := by decide +kernel
theorem dX1_rankOf_3 : decode cX1_rankOf 3 = .ok (.istore_n 3, 1) := by decide +kernel
theorem dX1_rankOf_4 : decode cX1_rankOf 4 = .ok (.iload_n 3, 1) := by decide +kernel
theorem dX1_rankOf_5 : decode cX1_rankOf 5 = .ok (.aload_n 0, 1) := by decide +kernel
theorem dX1_rankOf_6 : decode cX1_rankOf 6 = .ok (.getfield 18, 3) := by decide +kernel
theorem dX1_rankOf_9 : decode cX1_rankOf 9 = .ok (.if_icmp .ge 26, 3) := by decide +kernel
theorem dX1_rankOf_12 : decode cX1_rankOf 12 = .ok (.iload_n 2, 1) := by decide +kernel
theorem dX1_rankOf_13 : decode cX1_rankOf 13 = .ok (.aload_n 0, 1) := by decide +kernel
theorem dX1_rankOf_14 : decode cX1_rankOf 14 = .ok (.iload_n 3, 1) := by decide +kernel
theorem dX1_rankOf_15 : decode cX1_rankOf 15 = .ok (.iload_n 1, 1) := by decide +kernel
theorem dX1_rankOf_16 : decode cX1_rankOf 16 = .ok (.invokevirtual 70, 3) := by decide +kernel
theorem dX1_rankOf_19 : decode cX1_rankOf 19 = .ok (.ifCond .eq 7, 3) := by decide +kernel
theorem dX1_rankOf_22 : decode cX1_rankOf 22 = .ok (.iconst 1, 1) := by decide +kernel
theorem dX1_rankOf_23 : decode cX1_rankOf 23 = .ok (.goto 4, 3) := by decide +kernel
theorem dX1_rankOf_26 : decode cX1_rankOf 26 = .ok (.iconst 0, 1) := by decide +kernel
theorem dX1_rankOf_27 : decode cX1_rankOf 27 = .ok (.iadd, 1) := by decide +kernel
theorem dX1_rankOf_28 : decode cX1_rankOf 28 = .ok (.istore_n 2, 1) := by decide +kernel
theorem dX1_rankOf_29 : decode cX1_rankOf 29 = .ok (.iinc 3 1, 3) := by decide +kernel
theorem dX1_rankOf_32 : decode cX1_rankOf 32 = .ok (.goto (-28), 3) := by decide +kernel
theorem dX1_rankOf_35 : decode cX1_rankOf 35 = .ok (.iload_n 2, 1) := by decide +kernel
theorem dX1_rankOf_36 : decode cX1_rankOf 36 = .ok (.ireturn, 1) := by decide +kernel
theorem dX1_isBefore_0 : decode cX1_isBefore 0 = .ok (.aload_n 0, 1) := by decide +kernel
theorem dX1_isBefore_1 : decode cX1_isBefore 1 = .ok (.iload_n 1, 1) := by decide +kernel
theorem dX1_isBefore_2 : decode cX1_isBefore 2 = .ok (.invokevirtual 44, 3) := by decide +kernel
theorem dX1_isBefore_5 : decode cX1_isBefore 5 = .ok (.aload_n 0, 1) := by decide +kernel
theorem dX1_isBefore_6 : decode cX1_isBefore 6 = .ok (.iload_n 2, 1) := by decide +kernel
theorem dX1_isBefore_7 : decode cX1_isBefore 7 = .ok (.invokevirtual 44, 3) := by decide +kernel
theorem dX1_isBefore_10 : decode cX1_isBefore 10 = .ok (.if_icmp .eq 22, 3) := by decide +kernel
theorem dX1_isBefore_13 : decode cX1_isBefore 13 = .ok (.aload_n 0, 1) := by decide +kernel
theorem dX1_isBefore_14 : decode cX1_isBefore 14 = .ok (.iload_n 1, 1) := by decide +kernel
theorem dX1_isBefore_15 : decode cX1_isBefore 15 = .ok (.invokevirtual 44, 3) := by decide +kernel
theorem dX1_isBefore_18 : decode cX1_isBefore 18 = .ok (.aload_n 0, 1) := by decide +kernel
theorem dX1_isBefore_19 : decode cX1_isBefore 19 = .ok (.iload_n 2, 1) := by decide +kernel
theorem dX1_isBefore_20 : decode cX1_isBefore 20 = .ok (.invokevirtual 44, 3) := by decide +kernel
theorem dX1_isBefore_23 : decode cX1_isBefore 23 = .ok (.if_icmp .le 7, 3) := by decide +kernel
theorem dX1_isBefore_26 : decode cX1_isBefore 26 = .ok (.iconst 1, 1) := by decide +kernel
theorem dX1_isBefore_27 : decode cX1_isBefore 27 = .ok (.goto 4, 3) := by decide +kernel
theorem dX1_isBefore_30 : decode cX1_isBefore 30 = .ok (.iconst 0, 1) := by decide +kernel
theorem dX1_isBefore_31 : decode cX1_isBefore 31 = .ok (.ireturn, 1) := by decide +kernel
theorem dX1_isBefore_32 : decode cX1_isBefore 32 = .ok (.aload_n 0, 1) := by decide +kernel
theorem dX1_isBefore_33 : decode cX1_isBefore 33 = .ok (.iload_n 1, 1) := by decide +kernel
theorem dX1_isBefore_34 : decode cX1_isBefore 34 = .ok (.invokevirtual 64, 3) := by decide +kernel
theorem dX1_isBefore_37 : decode cX1_isBefore 37 = .ok (.istore_n 3, 1) := by decide +kernel
theorem dX1_isBefore_38 : decode cX1_isBefore 38 = .ok (.aload_n 0, 1) := by decide +kernel
theorem dX1_isBefore_39 : decode cX1_isBefore 39 = .ok (.iload_n 2, 1) := by decide +kernel
theorem dX1_isBefore_40 : decode cX1_isBefore 40 = .ok (.invokevirtual 64, 3) := by decide +kernel
theorem dX1_isBefore_43 : decode cX1_isBefore 43 = .ok (.istore 4, 2) := by decide +kernel
theorem dX1_isBefore_45 : decode cX1_isBefore 45 = .ok (.iload_n 3, 1) := by decide +kernel
theorem dX1_isBefore_46 : decode cX1_isBefore 46 = .ok (.iload 4, 2) := by decide +kernel
theorem dX1_isBefore_48 : decode cX1_isBefore 48 = .ok (.if_icmp .eq 17, 3) := by decide +kernel
theorem dX1_isBefore_51 : decode cX1_isBefore 51 = .ok (.iload_n 3, 1) := by decide +kernel
theorem dX1_isBefore_52 : decode cX1_isBefore 52 = .ok (.iload 4, 2) := by decide +kernel
theorem dX1_isBefore_54 : decode cX1_isBefore 54 = .ok (.if_icmp .ge 7, 3) := by decide +kernel
theorem dX1_isBefore_57 : decode cX1_isBefore 57 = .ok (.iconst 1, 1) := by decide +kernel
theorem dX1_isBefore_58 : decode cX1_isBefore 58 = .ok (.goto 17, 3) := by decide +kernel
theorem dX1_isBefore_61 : decode cX1_isBefore 61 = .ok (.iconst 0, 1) := by decide +kernel
theorem dX1_isBefore_62 : decode cX1_isBefore 62 = .ok (.goto 13, 3) := by decide +kernel
theorem dX1_isBefore_65 : decode cX1_isBefore 65 = .ok (.iload_n 1, 1) := by decide +kernel
theorem dX1_isBefore_66 : decode cX1_isBefore 66 = .ok (.iload_n 2, 1) := by decide +kernel
theorem dX1_isBefore_67 : decode cX1_isBefore 67 = .ok (.if_icmp .ge 7, 3) := by decide +kernel
theorem dX1_isBefore_70 : decode cX1_isBefore 70 = .ok (.iconst 1, 1) := by decide +kernel
theorem dX1_isBefore_71 : decode cX1_isBefore 71 = .ok (.goto 4, 3) := by decide +kernel
theorem dX1_isBefore_74 : decode cX1_isBefore 74 = .ok (.iconst 0, 1) := by decide +kernel
theorem dX1_isBefore_75 : decode cX1_isBefore 75 = .ok (.ireturn, 1) := by decide +kernel
theorem dX2_init_0 : decode cX2_init 0 = .ok (.aload_n 0, 1) := by decide +kernel
theorem dX2_init_1 : decode cX2_init 1 = .ok (.invokespecial 3, 3) := by decide +kernel
theorem dX2_init_4 : decode cX2_init 4 = .ok (.aload_n 0, 1) := by decide +kernel
theorem dX2_init_5 : decode cX2_init 5 = .ok (.bipush 9, 2) := by decide +kernel
theorem dX2_init_7 : decode cX2_init 7 = .ok (.anewarray 11, 3) := by decide +kernel
theorem dX2_init_10 : decode cX2_init 10 = .ok (.putfield 13, 3) := by decide +kernel
theorem dX2_init_13 : decode cX2_init 13 = .ok (.iconst 0, 1) := by decide +kernel
theorem dX2_init_14 : decode cX2_init 14 = .ok (.istore_n 1, 1) := by decide +kernel
theorem dX2_init_15 : decode cX2_init 15 = .ok (.iload_n 1, 1) := by decide +kernel
theorem dX2_init_16 : decode cX2_init 16 = .ok (.aload_n 0, 1) := by decide +kernel
theorem dX2_init_17 : decode cX2_init 17 = .ok (.getfield 13, 3) := by decide +kernel
theorem dX2_init_20 : decode cX2_init 20 = .ok (.arraylength, 1) := by decide +kernel
theorem dX2_init_21 : decode cX2_init 21 = .ok (.if_icmp .ge 22, 3) := by decide +kernel
theorem dX2_init_24 : decode cX2_init 24 = .ok (.aload_n 0, 1) := by decide +kernel
theorem dX2_init_25 : decode cX2_init 25 = .ok (.getfield 13, 3) := by decide +kernel
theorem dX2_init_28 : decode cX2_init 28 = .ok (.iload_n 1, 1) := by decide +kernel
theorem dX2_init_29 : decode cX2_init 29 = .ok (.new 11, 3) := by decide +kernel
theorem dX2_init_32 : decode cX2_init 32 = .ok (.dup, 1) := by decide +kernel
theorem dX2_init_33 : decode cX2_init 33 = .ok (.invokespecial 17, 3) := by decide +kernel
theorem dX2_init_36 : decode cX2_init 36 = .ok (.aastore, 1) := by decide +kernel
theorem dX2_init_37 : decode cX2_init 37 = .ok (.iinc 1 1, 3) := by decide +kernel
theorem dX2_init_40 : decode cX2_init 40 = .ok (.goto (-25), 3) := by decide +kernel
theorem dX2_init_43 : decode cX2_init 43 = .ok (.return_, 1) := by decide +kernel
theorem dX2_forget_0 : decode cX2_forget 0 = .ok (.aload_n 0, 1) := by decide +kernel
theorem dX2_forget_1 : decode cX2_forget 1 = .ok (.iconst 0, 1) := by decide +kernel
theorem dX2_forget_2 : decode cX2_forget 2 = .ok (.putfield 18, 3) := by decide +kernel
theorem dX2_forget_5 : decode cX2_forget 5 = .ok (.return_, 1) := by decide +kernel
theorem dX2_draft_0 : decode cX2_draft 0 = .ok (.aload_n 0, 1) := by decide +kernel
theorem dX2_draft_1 : decode cX2_draft 1 = .ok (.invokevirtual 22, 3) := by decide +kernel
theorem dX2_draft_4 : decode cX2_draft 4 = .ok (.astore_n 2, 1) := by decide +kernel
theorem dX2_draft_5 : decode cX2_draft 5 = .ok (.aload_n 2, 1) := by decide +kernel
theorem dX2_draft_6 : decode cX2_draft 6 = .ok (.ifnull 8, 3) := by decide +kernel
theorem dX2_draft_9 : decode cX2_draft 9 = .ok (.aload_n 2, 1) := by decide +kernel
theorem dX2_draft_10 : decode cX2_draft 10 = .ok (.aload_n 1, 1) := by decide +kernel
theorem dX2_draft_11 : decode cX2_draft 11 = .ok (.invokevirtual 26, 3) := by decide +kernel
theorem dX2_draft_14 : decode cX2_draft 14 = .ok (.return_, 1) := by decide +kernel
theorem dX2_dropDraft_0 : decode cX2_dropDraft 0 = .ok (.aload_n 0, 1) := by decide +kernel
theorem dX2_dropDraft_1 : decode cX2_dropDraft 1 = .ok (.invokevirtual 22, 3) := by decide +kernel
theorem dX2_dropDraft_4 : decode cX2_dropDraft 4 = .ok (.astore_n 2, 1) := by decide +kernel
theorem dX2_dropDraft_5 : decode cX2_dropDraft 5 = .ok (.aload_n 1, 1) := by decide +kernel
theorem dX2_dropDraft_6 : decode cX2_dropDraft 6 = .ok (.ifnull 12, 3) := by decide +kernel
theorem dX2_dropDraft_9 : decode cX2_dropDraft 9 = .ok (.aload_n 2, 1) := by decide +kernel
theorem dX2_dropDraft_10 : decode cX2_dropDraft 10 = .ok (.ifnull 8, 3) := by decide +kernel
theorem dX2_dropDraft_13 : decode cX2_dropDraft 13 = .ok (.aload_n 1, 1) := by decide +kernel
theorem dX2_dropDraft_14 : decode cX2_dropDraft 14 = .ok (.aload_n 2, 1) := by decide +kernel
theorem dX2_dropDraft_15 : decode cX2_dropDraft 15 = .ok (.invokevirtual 26, 3) := by decide +kernel
theorem dX2_dropDraft_18 : decode cX2_dropDraft 18 = .ok (.return_, 1) := by decide +kernel
theorem dX2_keepDraft_0 : decode cX2_keepDraft 0 = .ok (.aload_n 0, 1) := by decide +kernel
theorem dX2_keepDraft_1 : decode cX2_keepDraft 1 = .ok (.aload_n 0, 1) := by decide +kernel
theorem dX2_keepDraft_2 : decode cX2_keepDraft 2 = .ok (.getfield 30, 3) := by decide +kernel
theorem dX2_keepDraft_5 : decode cX2_keepDraft 5 = .ok (.iconst 1, 1) := by decide +kernel
theorem dX2_keepDraft_6 : decode cX2_keepDraft 6 = .ok (.iadd, 1) := by decide +kernel
theorem dX2_keepDraft_7 : decode cX2_keepDraft 7 = .ok (.bipush 9, 2) := by decide +kernel
theorem dX2_keepDraft_9 : decode cX2_keepDraft 9 = .ok (.if_icmp .ge 12, 3) := by decide +kernel
theorem dX2_keepDraft_12 : decode cX2_keepDraft 12 = .ok (.aload_n 0, 1) := by decide +kernel
theorem dX2_keepDraft_13 : decode cX2_keepDraft 13 = .ok (.getfield 30, 3) := by decide +kernel
theorem dX2_keepDraft_16 : decode cX2_keepDraft 16 = .ok (.iconst 1, 1) := by decide +kernel
theorem dX2_keepDraft_17 : decode cX2_keepDraft 17 = .ok (.iadd, 1) := by decide +kernel
theorem dX2_keepDraft_18 : decode cX2_keepDraft 18 = .ok (.goto 4, 3) := by decide +kernel
theorem dX2_keepDraft_21 : decode cX2_keepDraft 21 = .ok (.iconst 0, 1) := by decide +kernel
theorem dX2_keepDraft_22 : decode cX2_keepDraft 22 = .ok (.putfield 30, 3) := by decide +kernel
theorem dX2_keepDraft_25 : decode cX2_keepDraft 25 = .ok (.aload_n 0, 1) := by decide +kernel
theorem dX2_keepDraft_26 : decode cX2_keepDraft 26 = .ok (.aload_n 0, 1) := by decide +kernel
theorem dX2_keepDraft_27 : decode cX2_keepDraft 27 = .ok (.getfield 18, 3) := by decide +kernel
theorem dX2_keepDraft_30 : decode cX2_keepDraft 30 = .ok (.iconst 1, 1) := by decide +kernel
theorem dX2_keepDraft_31 : decode cX2_keepDraft 31 = .ok (.iadd, 1) := by decide +kernel
theorem dX2_keepDraft_32 : decode cX2_keepDraft 32 = .ok (.bipush 8, 2) := by decide +kernel
theorem dX2_keepDraft_34 : decode cX2_keepDraft 34 = .ok (.invokestatic 33, 3) := by decide +kernel
theorem dX2_keepDraft_37 : decode cX2_keepDraft 37 = .ok (.putfield 18, 3) := by decide +kernel
theorem dX2_keepDraft_40 : decode cX2_keepDraft 40 = .ok (.return_, 1) := by decide +kernel
theorem dX2_takeBack_0 : decode cX2_takeBack 0 = .ok (.aload_n 0, 1) := by decide +kernel
theorem dX2_takeBack_1 : decode cX2_takeBack 1 = .ok (.getfield 18, 3) := by decide +kernel
theorem dX2_takeBack_4 : decode cX2_takeBack 4 = .ok (.ifCond .gt 5, 3) := by decide +kernel
theorem dX2_takeBack_7 : decode cX2_takeBack 7 = .ok (.iconst 0, 1) := by decide +kernel
theorem dX2_takeBack_8 : decode cX2_takeBack 8 = .ok (.ireturn, 1) := by decide +kernel
theorem dX2_takeBack_9 : decode cX2_takeBack 9 = .ok (.aload_n 0, 1) := by decide +kernel
theorem dX2_takeBack_10 : decode cX2_takeBack 10 = .ok (.dup, 1) := by decide +kernel
theorem dX2_takeBack_11 : decode cX2_takeBack 11 = .ok (.getfield 18, 3) := by decide +kernel
theorem dX2_takeBack_14 : decode cX2_takeBack 14 = .ok (.iconst 1, 1) := by decide +kernel
theorem dX2_takeBack_15 : decode cX2_takeBack 15 = .ok (.isub, 1) := by decide +kernel
theorem dX2_takeBack_16 : decode cX2_takeBack 16 = .ok (.putfield 18, 3) := by decide +kernel
theorem dX2_takeBack_19 : decode cX2_takeBack 19 = .ok (.aload_n 0, 1) := by decide +kernel
theorem dX2_takeBack_20 : decode cX2_takeBack 20 = .ok (.aload_n 0, 1) := by decide +kernel
theorem dX2_takeBack_21 : decode cX2_takeBack 21 = .ok (.getfield 30, 3) := by decide +kernel
theorem dX2_takeBack_24 : decode cX2_takeBack 24 = .ok (.ifCond .le 12, 3) := by decide +kernel
theorem dX2_takeBack_27 : decode cX2_takeBack 27 = .ok (.aload_n 0, 1) := by decide +kernel
theorem dX2_takeBack_28 : decode cX2_takeBack 28 = .ok (.getfield 30, 3) := by decide +kernel
theorem dX2_takeBack_31 : decode cX2_takeBack 31 = .ok (.iconst 1, 1) := by decide +kernel
theorem dX2_takeBack_32 : decode cX2_takeBack 32 = .ok (.isub, 1) := by decide +kernel
theorem dX2_takeBack_33 : decode cX2_takeBack 33 = .ok (.goto 5, 3) := by decide +kernel
theorem dX2_takeBack_36 : decode cX2_takeBack 36 = .ok (.bipush 8, 2) := by decide +kernel
theorem dX2_takeBack_38 : decode cX2_takeBack 38 = .ok (.putfield 30, 3) := by decide +kernel
theorem dX2_takeBack_41 : decode cX2_takeBack 41 = .ok (.aload_n 0, 1) := by decide +kernel
theorem dX2_takeBack_42 : decode cX2_takeBack 42 = .ok (.aload_n 1, 1) := by decide +kernel
theorem dX2_takeBack_43 : decode cX2_takeBack 43 = .ok (.invokevirtual 39, 3) := by decide +kernel
theorem dX2_takeBack_46 : decode cX2_takeBack 46 = .ok (.iconst 1, 1) := by decide +kernel
theorem dX2_takeBack_47 : decode cX2_takeBack 47 = .ok (.ireturn, 1) := by decide +kernel
theorem dX2_slotOfDraft_0 : decode cX2_slotOfDraft 0 = .ok (.aload_n 0, 1) := by decide +kernel
theorem dX2_slotOfDraft_1 : decode cX2_slotOfDraft 1 = .ok (.getfield 30, 3) := by decide +kernel
theorem dX2_slotOfDraft_4 : decode cX2_slotOfDraft 4 = .ok (.ifCond .lt 27, 3) := by decide +kernel
theorem dX2_slotOfDraft_7 : decode cX2_slotOfDraft 7 = .ok (.aload_n 0, 1) := by decide +kernel
theorem dX2_slotOfDraft_8 : decode cX2_slotOfDraft 8 = .ok (.getfield 30, 3) := by decide +kernel
theorem dX2_slotOfDraft_11 : decode cX2_slotOfDraft 11 = .ok (.aload_n 0, 1) := by decide +kernel
theorem dX2_slotOfDraft_12 : decode cX2_slotOfDraft 12 = .ok (.getfield 13, 3) := by decide +kernel
theorem dX2_slotOfDraft_15 : decode cX2_slotOfDraft 15 = .ok (.arraylength, 1) := by decide +kernel
theorem dX2_slotOfDraft_16 : decode cX2_slotOfDraft 16 = .ok (.if_icmp .ge 15, 3) := by decide +kernel
theorem dX2_slotOfDraft_19 : decode cX2_slotOfDraft 19 = .ok (.aload_n 0, 1) := by decide +kernel
theorem dX2_slotOfDraft_20 : decode cX2_slotOfDraft 20 = .ok (.getfield 13, 3) := by decide +kernel
theorem dX2_slotOfDraft_23 : decode cX2_slotOfDraft 23 = .ok (.aload_n 0, 1) := by decide +kernel
theorem dX2_slotOfDraft_24 : decode cX2_slotOfDraft 24 = .ok (.getfield 30, 3) := by decide +kernel
theorem dX2_slotOfDraft_27 : decode cX2_slotOfDraft 27 = .ok (.aaload, 1) := by decide +kernel
theorem dX2_slotOfDraft_28 : decode cX2_slotOfDraft 28 = .ok (.goto 4, 3) := by decide +kernel
theorem dX2_slotOfDraft_31 : decode cX2_slotOfDraft 31 = .ok (.aconst_null, 1) := by decide +kernel
theorem dX2_slotOfDraft_32 : decode cX2_slotOfDraft 32 = .ok (.areturn, 1) := by decide +kernel
theorem dX3_init_0 : decode cX3_init 0 = .ok (.aload_n 0, 1) := by decide +kernel
theorem dX3_init_1 : decode cX3_init 1 = .ok (.invokespecial 3, 3) := by decide +kernel
theorem dX3_init_4 : decode cX3_init 4 = .ok (.aload_n 0, 1) := by decide +kernel
theorem dX3_init_5 : decode cX3_init 5 = .ok (.bipush 60, 2) := by decide +kernel
theorem dX3_init_7 : decode cX3_init 7 = .ok (.newarray .int, 2) := by decide +kernel
theorem dX3_init_9 : decode cX3_init 9 = .ok (.putfield 9, 3) := by decide +kernel
theorem dX3_init_12 : decode cX3_init 12 = .ok (.aload_n 0, 1) := by decide +kernel
theorem dX3_init_13 : decode cX3_init 13 = .ok (.bipush 60, 2) := by decide +kernel
theorem dX3_init_15 : decode cX3_init 15 = .ok (.anewarray 15, 3) := by decide +kernel
theorem dX3_init_18 : decode cX3_init 18 = .ok (.putfield 17, 3) := by decide +kernel
theorem dX3_init_21 : decode cX3_init 21 = .ok (.aload_n 0, 1) := by decide +kernel
theorem dX3_init_22 : decode cX3_init 22 = .ok (.bipush 60, 2) := by decide +kernel
theorem dX3_init_24 : decode cX3_init 24 = .ok (.newarray .int, 2) := by decide +kernel
theorem dX3_init_26 : decode cX3_init 26 = .ok (.putfield 21, 3) := by decide +kernel
theorem dX3_init_29 : decode cX3_init 29 = .ok (.aload_n 0, 1) := by decide +kernel
theorem dX3_init_30 : decode cX3_init 30 = .ok (.bipush 60, 2) := by decide +kernel
theorem dX3_init_32 : decode cX3_init 32 = .ok (.newarray .int, 2) := by decide +kernel
theorem dX3_init_34 : decode cX3_init 34 = .ok (.putfield 24, 3) := by decide +kernel
theorem dX3_init_37 : decode cX3_init 37 = .ok (.return_, 1) := by decide +kernel
theorem dX3_add_0 : decode cX3_add 0 = .ok (.iload_n 1, 1) := by decide +kernel
theorem dX3_add_1 : decode cX3_add 1 = .ok (.bipush 32, 2) := by decide +kernel
theorem dX3_add_3 : decode cX3_add 3 = .ok (.if_icmp .lt 18, 3) := by decide +kernel
theorem dX3_add_6 : decode cX3_add 6 = .ok (.iload_n 1, 1) := by decide +kernel
theorem dX3_add_7 : decode cX3_add 7 = .ok (.bipush 126, 2) := by decide +kernel
theorem dX3_add_9 : decode cX3_add 9 = .ok (.if_icmp .gt 12, 3) := by decide +kernel
theorem dX3_add_12 : decode cX3_add 12 = .ok (.aload_n 0, 1) := by decide +kernel
theorem dX3_add_13 : decode cX3_add 13 = .ok (.getfield 27, 3) := by decide +kernel
theorem dX3_add_16 : decode cX3_add 16 = .ok (.bipush 60, 2) := by decide +kernel
theorem dX3_add_18 : decode cX3_add 18 = .ok (.if_icmp .lt 6, 3) := by decide +kernel
theorem dX3_add_21 : decode cX3_add 21 = .ok (.bipush (-2), 2) := by decide +kernel
theorem dX3_add_23 : decode cX3_add 23 = .ok (.ireturn, 1) := by decide +kernel
theorem dX3_add_24 : decode cX3_add 24 = .ok (.aload_n 0, 1) := by decide +kernel
theorem dX3_add_25 : decode cX3_add 25 = .ok (.getfield 9, 3) := by decide +kernel
theorem dX3_add_28 : decode cX3_add 28 = .ok (.aload_n 0, 1) := by decide +kernel
theorem dX3_add_29 : decode cX3_add 29 = .ok (.getfield 27, 3) := by decide +kernel
theorem dX3_add_32 : decode cX3_add 32 = .ok (.iload_n 1, 1) := by decide +kernel
theorem dX3_add_33 : decode cX3_add 33 = .ok (.invokestatic 31, 3) := by decide +kernel
theorem dX3_add_36 : decode cX3_add 36 = .ok (.aload_n 0, 1) := by decide +kernel
theorem dX3_add_37 : decode cX3_add 37 = .ok (.dup, 1) := by decide +kernel
theorem dX3_add_38 : decode cX3_add 38 = .ok (.getfield 27, 3) := by decide +kernel
theorem dX3_add_41 : decode cX3_add 41 = .ok (.iconst 1, 1) := by decide +kernel
theorem dX3_add_42 : decode cX3_add 42 = .ok (.iadd, 1) := by decide +kernel
theorem dX3_add_43 : decode cX3_add 43 = .ok (.putfield 27, 3) := by decide +kernel
theorem dX3_add_46 : decode cX3_add 46 = .ok (.aload_n 0, 1) := by decide +kernel
theorem dX3_add_47 : decode cX3_add 47 = .ok (.getfield 27, 3) := by decide +kernel
theorem dX3_add_50 : decode cX3_add 50 = .ok (.ireturn, 1) := by decide +kernel
theorem dX3_makeEmpty_0 : decode cX3_makeEmpty 0 = .ok (.aload_n 0, 1) := by decide +kernel
theorem dX3_makeEmpty_1 : decode cX3_makeEmpty 1 = .ok (.iconst 0, 1) := by decide +kernel
theorem dX3_makeEmpty_2 : decode cX3_makeEmpty 2 = .ok (.putfield 27, 3) := by decide +kernel
theorem dX3_makeEmpty_5 : decode cX3_makeEmpty 5 = .ok (.return_, 1) := by decide +kernel
theorem dX3_wordOf_0 : decode cX3_wordOf 0 = .ok (.iload_n 1, 1) := by decide +kernel
theorem dX3_wordOf_1 : decode cX3_wordOf 1 = .ok (.ifCond .lt 29, 3) := by decide +kernel
theorem dX3_wordOf_4 : decode cX3_wordOf 4 = .ok (.iload_n 1, 1) := by decide +kernel
theorem dX3_wordOf_5 : decode cX3_wordOf 5 = .ok (.aload_n 0, 1) := by decide +kernel
theorem dX3_wordOf_6 : decode cX3_wordOf 6 = .ok (.getfield 35, 3) := by decide +kernel
theorem dX3_wordOf_9 : decode cX3_wordOf 9 = .ok (.if_icmp .ge 21, 3) := by decide +kernel
theorem dX3_wordOf_12 : decode cX3_wordOf 12 = .ok (.iload_n 1, 1) := by decide +kernel
theorem dX3_wordOf_13 : decode cX3_wordOf 13 = .ok (.aload_n 0, 1) := by decide +kernel
theorem dX3_wordOf_14 : decode cX3_wordOf 14 = .ok (.getfield 17, 3) := by decide +kernel
theorem dX3_wordOf_17 : decode cX3_wordOf 17 = .ok (.arraylength, 1) := by decide +kernel
theorem dX3_wordOf_18 : decode cX3_wordOf 18 = .ok (.if_icmp .ge 12, 3) := by decide +kernel
theorem dX3_wordOf_21 : decode cX3_wordOf 21 = .ok (.aload_n 0, 1) := by decide +kernel
theorem dX3_wordOf_22 : decode cX3_wordOf 22 = .ok (.getfield 17, 3) := by decide +kernel
theorem dX3_wordOf_25 : decode cX3_wordOf 25 = .ok (.iload_n 1, 1) := by decide +kernel
theorem dX3_wordOf_26 : decode cX3_wordOf 26 = .ok (.aaload, 1) := by decide +kernel
theorem dX3_wordOf_27 : decode cX3_wordOf 27 = .ok (.goto 4, 3) := by decide +kernel
theorem dX3_wordOf_30 : decode cX3_wordOf 30 = .ok (.aconst_null, 1) := by decide +kernel
theorem dX3_wordOf_31 : decode cX3_wordOf 31 = .ok (.areturn, 1) := by decide +kernel
theorem dX3_takeApart_0 : decode cX3_takeApart 0 = .ok (.aload_n 0, 1) := by decide +kernel
theorem dX3_takeApart_1 : decode cX3_takeApart 1 = .ok (.iconst 0, 1) := by decide +kernel
theorem dX3_takeApart_2 : decode cX3_takeApart 2 = .ok (.putfield 38, 3) := by decide +kernel
theorem dX3_takeApart_5 : decode cX3_takeApart 5 = .ok (.aload_n 0, 1) := by decide +kernel
theorem dX3_takeApart_6 : decode cX3_takeApart 6 = .ok (.iconst 0, 1) := by decide +kernel
theorem dX3_takeApart_7 : decode cX3_takeApart 7 = .ok (.putfield 35, 3) := by decide +kernel
theorem dX3_takeApart_10 : decode cX3_takeApart 10 = .ok (.iconst 0, 1) := by decide +kernel
theorem dX3_takeApart_11 : decode cX3_takeApart 11 = .ok (.istore_n 1, 1) := by decide +kernel
theorem dX3_takeApart_12 : decode cX3_takeApart 12 = .ok (.iload_n 1, 1) := by decide +kernel
theorem dX3_takeApart_13 : decode cX3_takeApart 13 = .ok (.bipush 60, 2) := by decide +kernel
theorem dX3_takeApart_15 : decode cX3_takeApart 15 = .ok (.if_icmp .ge 42, 3) := by decide +kernel
theorem dX3_takeApart_18 : decode cX3_takeApart 18 = .ok (.aload_n 0, 1) := by decide +kernel
theorem dX3_takeApart_19 : decode cX3_takeApart 19 = .ok (.invokevirtual 41, 3) := by decide +kernel
theorem dX3_takeApart_22 : decode cX3_takeApart 22 = .ok (.ifCond .ne 5, 3) := by decide +kernel
theorem dX3_takeApart_25 : decode cX3_takeApart 25 = .ok (.iconst 0, 1) := by decide +kernel
theorem dX3_takeApart_26 : decode cX3_takeApart 26 = .ok (.ireturn, 1) := by decide +kernel
theorem dX3_takeApart_27 : decode cX3_takeApart 27 = .ok (.aload_n 0, 1) := by decide +kernel
theorem dX3_takeApart_28 : decode cX3_takeApart 28 = .ok (.getfield 38, 3) := by decide +kernel
theorem dX3_takeApart_31 : decode cX3_takeApart 31 = .ok (.aload_n 0, 1) := by decide +kernel
theorem dX3_takeApart_32 : decode cX3_takeApart 32 = .ok (.getfield 27, 3) := by decide +kernel
theorem dX3_takeApart_35 : decode cX3_takeApart 35 = .ok (.if_icmp .lt 5, 3) := by decide +kernel
theorem dX3_takeApart_38 : decode cX3_takeApart 38 = .ok (.iconst 1, 1) := by decide +kernel
theorem dX3_takeApart_39 : decode cX3_takeApart 39 = .ok (.ireturn, 1) := by decide +kernel
theorem dX3_takeApart_40 : decode cX3_takeApart 40 = .ok (.aload_n 0, 1) := by decide +kernel
theorem dX3_takeApart_41 : decode cX3_takeApart 41 = .ok (.bipush 59, 2) := by decide +kernel
theorem dX3_takeApart_43 : decode cX3_takeApart 43 = .ok (.invokevirtual 45, 3) := by decide +kernel
theorem dX3_takeApart_46 : decode cX3_takeApart 46 = .ok (.ifCond .ne 5, 3) := by decide +kernel
theorem dX3_takeApart_49 : decode cX3_takeApart 49 = .ok (.iconst 0, 1) := by decide +kernel
theorem dX3_takeApart_50 : decode cX3_takeApart 50 = .ok (.ireturn, 1) := by decide +kernel
theorem dX3_takeApart_51 : decode cX3_takeApart 51 = .ok (.iinc 1 1, 3) := by decide +kernel
theorem dX3_takeApart_54 : decode cX3_takeApart 54 = .ok (.goto (-42), 3) := by decide +kernel
theorem dX3_takeApart_57 : decode cX3_takeApart 57 = .ok (.iconst 0, 1) := by decide +kernel
theorem dX3_takeApart_58 : decode cX3_takeApart 58 = .ok (.ireturn, 1) := by decide +kernel
theorem dX3_takeCommand_0 : decode cX3_takeCommand 0 = .ok (.aload_n 0, 1) := by decide +kernel
theorem dX3_takeCommand_1 : decode cX3_takeCommand 1 = .ok (.invokevirtual 49, 3) := by decide +kernel
theorem dX3_takeCommand_4 : decode cX3_takeCommand 4 = .ok (.astore_n 1, 1) := by decide +kernel
theorem dX3_takeCommand_5 : decode cX3_takeCommand 5 = .ok (.aload_n 1, 1) := by decide +kernel
theorem dX3_takeCommand_6 : decode cX3_takeCommand 6 = .ok (.ifnonnull 5, 3) := by decide +kernel
theorem dX3_takeCommand_9 : decode cX3_takeCommand 9 = .ok (.iconst 0, 1) := by decide +kernel
theorem dX3_takeCommand_10 : decode cX3_takeCommand 10 = .ok (.ireturn, 1) := by decide +kernel
theorem dX3_takeCommand_11 : decode cX3_takeCommand 11 = .ok (.iconst 0, 1) := by decide +kernel
theorem dX3_takeCommand_12 : decode cX3_takeCommand 12 = .ok (.istore_n 2, 1) := by decide +kernel
theorem dX3_takeCommand_13 : decode cX3_takeCommand 13 = .ok (.iconst 0, 1) := by decide +kernel
theorem dX3_takeCommand_14 : decode cX3_takeCommand 14 = .ok (.istore_n 3, 1) := by decide +kernel
theorem dX3_takeCommand_15 : decode cX3_takeCommand 15 = .ok (.aload_n 1, 1) := by decide +kernel
theorem dX3_takeCommand_16 : decode cX3_takeCommand 16 = .ok (.getfield 53, 3) := by decide +kernel
theorem dX3_takeCommand_19 : decode cX3_takeCommand 19 = .ok (.ifCond .le 8, 3) := by decide +kernel
theorem dX3_takeCommand_22 : decode cX3_takeCommand 22 = .ok (.aload_n 0, 1) := by decide +kernel
theorem dX3_takeCommand_23 : decode cX3_takeCommand 23 = .ok (.invokevirtual 56, 3) := by decide +kernel
theorem dX3_takeCommand_26 : decode cX3_takeCommand 26 = .ok (.istore_n 2, 1) := by decide +kernel
theorem dX3_takeCommand_27 : decode cX3_takeCommand 27 = .ok (.iload_n 2, 1) := by decide +kernel
theorem dX3_takeCommand_28 : decode cX3_takeCommand 28 = .ok (.ifCond .lt 29, 3) := by decide +kernel
theorem dX3_takeCommand_31 : decode cX3_takeCommand 31 = .ok (.aload_n 1, 1) := by decide +kernel
theorem dX3_takeCommand_32 : decode cX3_takeCommand 32 = .ok (.getfield 53, 3) := by decide +kernel
theorem dX3_takeCommand_35 : decode cX3_takeCommand 35 = .ok (.iconst 1, 1) := by decide +kernel
theorem dX3_takeCommand_36 : decode cX3_takeCommand 36 = .ok (.if_icmp .le 21, 3) := by decide +kernel
theorem dX3_takeCommand_39 : decode cX3_takeCommand 39 = .ok (.aload_n 0, 1) := by decide +kernel
theorem dX3_takeCommand_40 : decode cX3_takeCommand 40 = .ok (.bipush 32, 2) := by decide +kernel
theorem dX3_takeCommand_42 : decode cX3_takeCommand 42 = .ok (.invokevirtual 45, 3) := by decide +kernel
theorem dX3_takeCommand_45 : decode cX3_takeCommand 45 = .ok (.ifCond .eq 10, 3) := by decide +kernel
theorem dX3_takeCommand_48 : decode cX3_takeCommand 48 = .ok (.aload_n 0, 1) := by decide +kernel
theorem dX3_takeCommand_49 : decode cX3_takeCommand 49 = .ok (.invokevirtual 56, 3) := by decide +kernel
theorem dX3_takeCommand_52 : decode cX3_takeCommand 52 = .ok (.goto 4, 3) := by decide +kernel
theorem dX3_takeCommand_55 : decode cX3_takeCommand 55 = .ok (.iconst (-1), 1) := by decide +kernel
theorem dX3_takeCommand_56 : decode cX3_takeCommand 56 = .ok (.istore_n 3, 1) := by decide +kernel
theorem dX3_takeCommand_57 : decode cX3_takeCommand 57 = .ok (.iload_n 2, 1) := by decide +kernel
theorem dX3_takeCommand_58 : decode cX3_takeCommand 58 = .ok (.ifCond .lt 7, 3) := by decide +kernel
theorem dX3_takeCommand_61 : decode cX3_takeCommand 61 = .ok (.iload_n 3, 1) := by decide +kernel
theorem dX3_takeCommand_62 : decode cX3_takeCommand 62 = .ok (.ifCond .ge 5, 3) := by decide +kernel
theorem dX3_takeCommand_65 : decode cX3_takeCommand 65 = .ok (.iconst 0, 1) := by decide +kernel
theorem dX3_takeCommand_66 : decode cX3_takeCommand 66 = .ok (.ireturn, 1) := by decide +kernel
theorem dX3_takeCommand_67 : decode cX3_takeCommand 67 = .ok (.aload_n 0, 1) := by decide +kernel
theorem dX3_takeCommand_68 : decode cX3_takeCommand 68 = .ok (.aload_n 1, 1) := by decide +kernel
theorem dX3_takeCommand_69 : decode cX3_takeCommand 69 = .ok (.iload_n 2, 1) := by decide +kernel
theorem dX3_takeCommand_70 : decode cX3_takeCommand 70 = .ok (.iload_n 3, 1) := by decide +kernel
theorem dX3_takeCommand_71 : decode cX3_takeCommand 71 = .ok (.invokevirtual 60, 3) := by decide +kernel
theorem dX3_takeCommand_74 : decode cX3_takeCommand 74 = .ok (.iconst 1, 1) := by decide +kernel
theorem dX3_takeCommand_75 : decode cX3_takeCommand 75 = .ok (.ireturn, 1) := by decide +kernel
theorem dX3_addCommand_0 : decode cX3_addCommand 0 = .ok (.aload_n 0, 1) := by decide +kernel
theorem dX3_addCommand_1 : decode cX3_addCommand 1 = .ok (.getfield 35, 3) := by decide +kernel
theorem dX3_addCommand_4 : decode cX3_addCommand 4 = .ok (.ifCond .lt 59, 3) := by decide +kernel
theorem dX3_addCommand_7 : decode cX3_addCommand 7 = .ok (.aload_n 0, 1) := by decide +kernel
theorem dX3_addCommand_8 : decode cX3_addCommand 8 = .ok (.getfield 35, 3) := by decide +kernel
theorem dX3_addCommand_11 : decode cX3_addCommand 11 = .ok (.aload_n 0, 1) := by decide +kernel
theorem dX3_addCommand_12 : decode cX3_addCommand 12 = .ok (.getfield 17, 3) := by decide +kernel
theorem dX3_addCommand_15 : decode cX3_addCommand 15 = .ok (.arraylength, 1) := by decide +kernel
theorem dX3_addCommand_16 : decode cX3_addCommand 16 = .ok (.if_icmp .ge 47, 3) := by decide +kernel
theorem dX3_addCommand_19 : decode cX3_addCommand 19 = .ok (.aload_n 0, 1) := by decide +kernel
theorem dX3_addCommand_20 : decode cX3_addCommand 20 = .ok (.getfield 17, 3) := by decide +kernel
theorem dX3_addCommand_23 : decode cX3_addCommand 23 = .ok (.aload_n 0, 1) := by decide +kernel
theorem dX3_addCommand_24 : decode cX3_addCommand 24 = .ok (.getfield 35, 3) := by decide +kernel
theorem dX3_addCommand_27 : decode cX3_addCommand 27 = .ok (.aload_n 1, 1) := by decide +kernel
theorem dX3_addCommand_28 : decode cX3_addCommand 28 = .ok (.aastore, 1) := by decide +kernel
theorem dX3_addCommand_29 : decode cX3_addCommand 29 = .ok (.aload_n 0, 1) := by decide +kernel
theorem dX3_addCommand_30 : decode cX3_addCommand 30 = .ok (.getfield 21, 3) := by decide +kernel
theorem dX3_addCommand_33 : decode cX3_addCommand 33 = .ok (.aload_n 0, 1) := by decide +kernel
theorem dX3_addCommand_34 : decode cX3_addCommand 34 = .ok (.getfield 35, 3) := by decide +kernel
theorem dX3_addCommand_37 : decode cX3_addCommand 37 = .ok (.iload_n 2, 1) := by decide +kernel
theorem dX3_addCommand_38 : decode cX3_addCommand 38 = .ok (.invokestatic 31, 3) := by decide +kernel
theorem dX3_addCommand_41 : decode cX3_addCommand 41 = .ok (.aload_n 0, 1) := by decide +kernel
theorem dX3_addCommand_42 : decode cX3_addCommand 42 = .ok (.getfield 24, 3) := by decide +kernel
theorem dX3_addCommand_45 : decode cX3_addCommand 45 = .ok (.aload_n 0, 1) := by decide +kernel
theorem dX3_addCommand_46 : decode cX3_addCommand 46 = .ok (.getfield 35, 3) := by decide +kernel
theorem dX3_addCommand_49 : decode cX3_addCommand 49 = .ok (.iload_n 3, 1) := by decide +kernel
theorem dX3_addCommand_50 : decode cX3_addCommand 50 = .ok (.invokestatic 31, 3) := by decide +kernel
theorem dX3_addCommand_53 : decode cX3_addCommand 53 = .ok (.aload_n 0, 1) := by decide +kernel
theorem dX3_addCommand_54 : decode cX3_addCommand 54 = .ok (.dup, 1) := by decide +kernel
theorem dX3_addCommand_55 : decode cX3_addCommand 55 = .ok (.getfield 35, 3) := by decide +kernel
theorem dX3_addCommand_58 : decode cX3_addCommand 58 = .ok (.iconst 1, 1) := by decide +kernel
theorem dX3_addCommand_59 : decode cX3_addCommand 59 = .ok (.iadd, 1) := by decide +kernel
theorem dX3_addCommand_60 : decode cX3_addCommand 60 = .ok (.putfield 35, 3) := by decide +kernel
theorem dX3_addCommand_63 : decode cX3_addCommand 63 = .ok (.return_, 1) := by decide +kernel
theorem dX3_takeWord_0 : decode cX3_takeWord 0 = .ok (.iconst 0, 1) := by decide +kernel
theorem dX3_takeWord_1 : decode cX3_takeWord 1 = .ok (.istore_n 1, 1) := by decide +kernel
theorem dX3_takeWord_2 : decode cX3_takeWord 2 = .ok (.getstatic 64, 3) := by decide +kernel
theorem dX3_takeWord_5 : decode cX3_takeWord 5 = .ok (.astore_n 2, 1) := by decide +kernel
theorem dX3_takeWord_6 : decode cX3_takeWord 6 = .ok (.aload_n 2, 1) := by decide +kernel
theorem dX3_takeWord_7 : decode cX3_takeWord 7 = .ok (.arraylength, 1) := by decide +kernel
theorem dX3_takeWord_8 : decode cX3_takeWord 8 = .ok (.istore_n 3, 1) := by decide +kernel
theorem dX3_takeWord_9 : decode cX3_takeWord 9 = .ok (.iconst 0, 1) := by decide +kernel
theorem dX3_takeWord_10 : decode cX3_takeWord 10 = .ok (.istore 4, 2) := by decide +kernel
theorem dX3_takeWord_12 : decode cX3_takeWord 12 = .ok (.iload 4, 2) := by decide +kernel
theorem dX3_takeWord_14 : decode cX3_takeWord 14 = .ok (.iload_n 3, 1) := by decide +kernel
theorem dX3_takeWord_15 : decode cX3_takeWord 15 = .ok (.if_icmp .ge 60, 3) := by decide +kernel
theorem dX3_takeWord_18 : decode cX3_takeWord 18 = .ok (.aload_n 2, 1) := by decide +kernel
theorem dX3_takeWord_19 : decode cX3_takeWord 19 = .ok (.iload 4, 2) := by decide +kernel
theorem dX3_takeWord_21 : decode cX3_takeWord 21 = .ok (.aaload, 1) := by decide +kernel
theorem dX3_takeWord_22 : decode cX3_takeWord 22 = .ok (.astore 5, 2) := by decide +kernel
theorem dX3_takeWord_24 : decode cX3_takeWord 24 = .ok (.aload_n 0, 1) := by decide +kernel
theorem dX3_takeWord_25 : decode cX3_takeWord 25 = .ok (.aload 5, 2) := by decide +kernel
theorem dX3_takeWord_27 : decode cX3_takeWord 27 = .ok (.getfield 67, 3) := by decide +kernel
theorem dX3_takeWord_30 : decode cX3_takeWord 30 = .ok (.invokevirtual 71, 3) := by decide +kernel
theorem dX3_takeWord_33 : decode cX3_takeWord 33 = .ok (.istore 6, 2) := by decide +kernel
theorem dX3_takeWord_35 : decode cX3_takeWord 35 = .ok (.iload 6, 2) := by decide +kernel
theorem dX3_takeWord_37 : decode cX3_takeWord 37 = .ok (.aload 5, 2) := by decide +kernel
theorem dX3_takeWord_39 : decode cX3_takeWord 39 = .ok (.getfield 67, 3) := by decide +kernel
theorem dX3_takeWord_42 : decode cX3_takeWord 42 = .ok (.invokevirtual 75, 3) := by decide +kernel
theorem dX3_takeWord_45 : decode cX3_takeWord 45 = .ok (.if_icmp .ne 17, 3) := by decide +kernel
theorem dX3_takeWord_48 : decode cX3_takeWord 48 = .ok (.aload_n 0, 1) := by decide +kernel
theorem dX3_takeWord_49 : decode cX3_takeWord 49 = .ok (.dup, 1) := by decide +kernel
theorem dX3_takeWord_50 : decode cX3_takeWord 50 = .ok (.getfield 38, 3) := by decide +kernel
theorem dX3_takeWord_53 : decode cX3_takeWord 53 = .ok (.iload 6, 2) := by decide +kernel
theorem dX3_takeWord_55 : decode cX3_takeWord 55 = .ok (.iadd, 1) := by decide +kernel
theorem dX3_takeWord_56 : decode cX3_takeWord 56 = .ok (.putfield 38, 3) := by decide +kernel
theorem dX3_takeWord_59 : decode cX3_takeWord 59 = .ok (.aload 5, 2) := by decide +kernel
theorem dX3_takeWord_61 : decode cX3_takeWord 61 = .ok (.areturn, 1) := by decide +kernel
theorem dX3_takeWord_62 : decode cX3_takeWord 62 = .ok (.iload_n 1, 1) := by decide +kernel
theorem dX3_takeWord_63 : decode cX3_takeWord 63 = .ok (.iload 6, 2) := by decide +kernel
theorem dX3_takeWord_65 : decode cX3_takeWord 65 = .ok (.invokestatic 79, 3) := by decide +kernel
theorem dX3_takeWord_68 : decode cX3_takeWord 68 = .ok (.istore_n 1, 1) := by decide +kernel
theorem dX3_takeWord_69 : decode cX3_takeWord 69 = .ok (.iinc 4 1, 3) := by decide +kernel
theorem dX3_takeWord_72 : decode cX3_takeWord 72 = .ok (.goto (-60), 3) := by decide +kernel
theorem dX3_takeWord_75 : decode cX3_takeWord 75 = .ok (.aload_n 0, 1) := by decide +kernel
theorem dX3_takeWord_76 : decode cX3_takeWord 76 = .ok (.dup, 1) := by decide +kernel
theorem dX3_takeWord_77 : decode cX3_takeWord 77 = .ok (.getfield 38, 3) := by decide +kernel
theorem dX3_takeWord_80 : decode cX3_takeWord 80 = .ok (.iload_n 1, 1) := by decide +kernel
theorem dX3_takeWord_81 : decode cX3_takeWord 81 = .ok (.iadd, 1) := by decide +kernel
theorem dX3_takeWord_82 : decode cX3_takeWord 82 = .ok (.putfield 38, 3) := by decide +kernel
theorem dX3_takeWord_85 : decode cX3_takeWord 85 = .ok (.aconst_null, 1) := by decide +kernel
theorem dX3_takeWord_86 : decode cX3_takeWord 86 = .ok (.areturn, 1) := by decide +kernel
theorem dX3_sameLetters_0 : decode cX3_sameLetters 0 = .ok (.iconst 0, 1) := by decide +kernel
theorem dX3_sameLetters_1 : decode cX3_sameLetters 1 = .ok (.istore_n 2, 1) := by decide +kernel
theorem dX3_sameLetters_2 : decode cX3_sameLetters 2 = .ok (.iload_n 2, 1) := by decide +kernel
theorem dX3_sameLetters_3 : decode cX3_sameLetters 3 = .ok (.aload_n 1, 1) := by decide +kernel
theorem dX3_sameLetters_4 : decode cX3_sameLetters 4 = .ok (.invokevirtual 75, 3) := by decide +kernel
theorem dX3_sameLetters_7 : decode cX3_sameLetters 7 = .ok (.if_icmp .ge 27, 3) := by decide +kernel
theorem dX3_sameLetters_10 : decode cX3_sameLetters 10 = .ok (.aload_n 0, 1) := by decide +kernel
theorem dX3_sameLetters_11 : decode cX3_sameLetters 11 = .ok (.aload_n 0, 1) := by decide +kernel
theorem dX3_sameLetters_12 : decode cX3_sameLetters 12 = .ok (.getfield 38, 3) := by decide +kernel
theorem dX3_sameLetters_15 : decode cX3_sameLetters 15 = .ok (.iload_n 2, 1) := by decide +kernel
theorem dX3_sameLetters_16 : decode cX3_sameLetters 16 = .ok (.iadd, 1) := by decide +kernel
theorem dX3_sameLetters_17 : decode cX3_sameLetters 17 = .ok (.invokevirtual 85, 3) := by decide +kernel
theorem dX3_sameLetters_20 : decode cX3_sameLetters 20 = .ok (.aload_n 1, 1) := by decide +kernel
theorem dX3_sameLetters_21 : decode cX3_sameLetters 21 = .ok (.iload_n 2, 1) := by decide +kernel
theorem dX3_sameLetters_22 : decode cX3_sameLetters 22 = .ok (.invokevirtual 89, 3) := by decide +kernel
theorem dX3_sameLetters_25 : decode cX3_sameLetters 25 = .ok (.if_icmp .ne 9, 3) := by decide +kernel
theorem dX3_sameLetters_28 : decode cX3_sameLetters 28 = .ok (.iinc 2 1, 3) := by decide +kernel
theorem dX3_sameLetters_31 : decode cX3_sameLetters 31 = .ok (.goto (-29), 3) := by decide +kernel
theorem dX3_sameLetters_34 : decode cX3_sameLetters 34 = .ok (.iload_n 2, 1) := by decide +kernel
theorem dX3_sameLetters_35 : decode cX3_sameLetters 35 = .ok (.ireturn, 1) := by decide +kernel
theorem dX3_takeNumber_0 : decode cX3_takeNumber 0 = .ok (.aload_n 0, 1) := by decide +kernel
theorem dX3_takeNumber_1 : decode cX3_takeNumber 1 = .ok (.invokevirtual 93, 3) := by decide +kernel
theorem dX3_takeNumber_4 : decode cX3_takeNumber 4 = .ok (.istore_n 1, 1) := by decide +kernel
theorem dX3_takeNumber_5 : decode cX3_takeNumber 5 = .ok (.iload_n 1, 1) := by decide +kernel
theorem dX3_takeNumber_6 : decode cX3_takeNumber 6 = .ok (.ifCond .ge 5, 3) := by decide +kernel
theorem dX3_takeNumber_9 : decode cX3_takeNumber 9 = .ok (.iconst (-1), 1) := by decide +kernel
theorem dX3_takeNumber_10 : decode cX3_takeNumber 10 = .ok (.ireturn, 1) := by decide +kernel
theorem dX3_takeNumber_11 : decode cX3_takeNumber 11 = .ok (.aload_n 0, 1) := by decide +kernel
theorem dX3_takeNumber_12 : decode cX3_takeNumber 12 = .ok (.invokevirtual 93, 3) := by decide +kernel
theorem dX3_takeNumber_15 : decode cX3_takeNumber 15 = .ok (.istore_n 2, 1) := by decide +kernel
theorem dX3_takeNumber_16 : decode cX3_takeNumber 16 = .ok (.iload_n 2, 1) := by decide +kernel
theorem dX3_takeNumber_17 : decode cX3_takeNumber 17 = .ok (.ifCond .ge 7, 3) := by decide +kernel
theorem dX3_takeNumber_20 : decode cX3_takeNumber 20 = .ok (.iload_n 1, 1) := by decide +kernel
theorem dX3_takeNumber_21 : decode cX3_takeNumber 21 = .ok (.goto 9, 3) := by decide +kernel
theorem dX3_takeNumber_24 : decode cX3_takeNumber 24 = .ok (.iload_n 1, 1) := by decide +kernel
theorem dX3_takeNumber_25 : decode cX3_takeNumber 25 = .ok (.bipush 10, 2) := by decide +kernel
theorem dX3_takeNumber_27 : decode cX3_takeNumber 27 = .ok (.imul, 1) := by decide +kernel
theorem dX3_takeNumber_28 : decode cX3_takeNumber 28 = .ok (.iload_n 2, 1) := by decide +kernel
theorem dX3_takeNumber_29 : decode cX3_takeNumber 29 = .ok (.iadd, 1) := by decide +kernel
theorem dX3_takeNumber_30 : decode cX3_takeNumber 30 = .ok (.ireturn, 1) := by decide +kernel
theorem dX3_takeDigit_0 : decode cX3_takeDigit 0 = .ok (.aload_n 0, 1) := by decide +kernel
theorem dX3_takeDigit_1 : decode cX3_takeDigit 1 = .ok (.aload_n 0, 1) := by decide +kernel
theorem dX3_takeDigit_2 : decode cX3_takeDigit 2 = .ok (.getfield 38, 3) := by decide +kernel
theorem dX3_takeDigit_5 : decode cX3_takeDigit 5 = .ok (.invokevirtual 85, 3) := by decide +kernel
theorem dX3_takeDigit_8 : decode cX3_takeDigit 8 = .ok (.istore_n 1, 1) := by decide +kernel
theorem dX3_takeDigit_9 : decode cX3_takeDigit 9 = .ok (.iload_n 1, 1) := by decide +kernel
theorem dX3_takeDigit_10 : decode cX3_takeDigit 10 = .ok (.bipush 48, 2) := by decide +kernel
theorem dX3_takeDigit_12 : decode cX3_takeDigit 12 = .ok (.if_icmp .lt 9, 3) := by decide +kernel
theorem dX3_takeDigit_15 : decode cX3_takeDigit 15 = .ok (.iload_n 1, 1) := by decide +kernel
theorem dX3_takeDigit_16 : decode cX3_takeDigit 16 = .ok (.bipush 57, 2) := by decide +kernel
theorem dX3_takeDigit_18 : decode cX3_takeDigit 18 = .ok (.if_icmp .le 5, 3) := by decide +kernel
theorem dX3_takeDigit_21 : decode cX3_takeDigit 21 = .ok (.iconst (-1), 1) := by decide +kernel
theorem dX3_takeDigit_22 : decode cX3_takeDigit 22 = .ok (.ireturn, 1) := by decide +kernel
theorem dX3_takeDigit_23 : decode cX3_takeDigit 23 = .ok (.aload_n 0, 1) := by decide +kernel
theorem dX3_takeDigit_24 : decode cX3_takeDigit 24 = .ok (.dup, 1) := by decide +kernel
theorem dX3_takeDigit_25 : decode cX3_takeDigit 25 = .ok (.getfield 38, 3) := by decide +kernel
theorem dX3_takeDigit_28 : decode cX3_takeDigit 28 = .ok (.iconst 1, 1) := by decide +kernel
theorem dX3_takeDigit_29 : decode cX3_takeDigit 29 = .ok (.iadd, 1) := by decide +kernel
theorem dX3_takeDigit_30 : decode cX3_takeDigit 30 = .ok (.putfield 38, 3) := by decide +kernel
theorem dX3_takeDigit_33 : decode cX3_takeDigit 33 = .ok (.iload_n 1, 1) := by decide +kernel
theorem dX3_takeDigit_34 : decode cX3_takeDigit 34 = .ok (.bipush 48, 2) := by decide +kernel
theorem dX3_takeDigit_36 : decode cX3_takeDigit 36 = .ok (.isub, 1) := by decide +kernel
theorem dX3_takeDigit_37 : decode cX3_takeDigit 37 = .ok (.ireturn, 1) := by decide +kernel
theorem dX3_takeSign_0 : decode cX3_takeSign 0 = .ok (.aload_n 0, 1) := by decide +kernel
theorem dX3_takeSign_1 : decode cX3_takeSign 1 = .ok (.aload_n 0, 1) := by decide +kernel
theorem dX3_takeSign_2 : decode cX3_takeSign 2 = .ok (.getfield 38, 3) := by decide +kernel
theorem dX3_takeSign_5 : decode cX3_takeSign 5 = .ok (.invokevirtual 85, 3) := by decide +kernel
theorem dX3_takeSign_8 : decode cX3_takeSign 8 = .ok (.iload_n 1, 1) := by decide +kernel
theorem dX3_takeSign_9 : decode cX3_takeSign 9 = .ok (.if_icmp .eq 5, 3) := by decide +kernel
theorem dX3_takeSign_12 : decode cX3_takeSign 12 = .ok (.iconst 0, 1) := by decide +kernel
theorem dX3_takeSign_13 : decode cX3_takeSign 13 = .ok (.ireturn, 1) := by decide +kernel
theorem dX3_takeSign_14 : decode cX3_takeSign 14 = .ok (.aload_n 0, 1) := by decide +kernel
theorem dX3_takeSign_15 : decode cX3_takeSign 15 = .ok (.dup, 1) := by decide +kernel
theorem dX3_takeSign_16 : decode cX3_takeSign 16 = .ok (.getfield 38, 3) := by decide +kernel
theorem dX3_takeSign_19 : decode cX3_takeSign 19 = .ok (.iconst 1, 1) := by decide +kernel
theorem dX3_takeSign_20 : decode cX3_takeSign 20 = .ok (.iadd, 1) := by decide +kernel
theorem dX3_takeSign_21 : decode cX3_takeSign 21 = .ok (.putfield 38, 3) := by decide +kernel
theorem dX3_takeSign_24 : decode cX3_takeSign 24 = .ok (.iconst 1, 1) := by decide +kernel
theorem dX3_takeSign_25 : decode cX3_takeSign 25 = .ok (.ireturn, 1) := by decide +kernel
theorem dX3_codeAt_0 : decode cX3_codeAt 0 = .ok (.iload_n 1, 1) := by decide +kernel
theorem dX3_codeAt_1 : decode cX3_codeAt 1 = .ok (.aload_n 0, 1) := by decide +kernel
theorem dX3_codeAt_2 : decode cX3_codeAt 2 = .ok (.getfield 27, 3) := by decide +kernel
theorem dX3_codeAt_5 : decode cX3_codeAt 5 = .ok (.if_icmp .ge 14, 3) := by decide +kernel
theorem dX3_codeAt_8 : decode cX3_codeAt 8 = .ok (.aload_n 0, 1) := by decide +kernel
theorem dX3_codeAt_9 : decode cX3_codeAt 9 = .ok (.getfield 9, 3) := by decide +kernel
theorem dX3_codeAt_12 : decode cX3_codeAt 12 = .ok (.iload_n 1, 1) := by decide +kernel
theorem dX3_codeAt_13 : decode cX3_codeAt 13 = .ok (.invokestatic 96, 3) := by decide +kernel
theorem dX3_codeAt_16 : decode cX3_codeAt 16 = .ok (.goto 4, 3) := by decide +kernel
theorem dX3_codeAt_19 : decode cX3_codeAt 19 = .ok (.iconst (-1), 1) := by decide +kernel
theorem dX3_codeAt_20 : decode cX3_codeAt 20 = .ok (.ireturn, 1) := by decide +kernel
theorem dX4_init_0 : decode cX4_init 0 = .ok (.aload_n 0, 1) := by decide +kernel
theorem dX4_init_1 : decode cX4_init 1 = .ok (.invokespecial 3, 3) := by decide +kernel
theorem dX4_init_4 : decode cX4_init 4 = .ok (.aload_n 0, 1) := by decide +kernel
theorem dX4_init_5 : decode cX4_init 5 = .ok (.bipush 54, 2) := by decide +kernel
theorem dX4_init_7 : decode cX4_init 7 = .ok (.newarray .int, 2) := by decide +kernel
theorem dX4_init_9 : decode cX4_init 9 = .ok (.putfield 9, 3) := by decide +kernel
theorem dX4_init_12 : decode cX4_init 12 = .ok (.return_, 1) := by decide +kernel
theorem dX4_makeEmpty_0 : decode cX4_makeEmpty 0 = .ok (.aload_n 0, 1) := by decide +kernel
theorem dX4_makeEmpty_1 : decode cX4_makeEmpty 1 = .ok (.iconst 0, 1) := by decide +kernel
theorem dX4_makeEmpty_2 : decode cX4_makeEmpty 2 = .ok (.putfield 15, 3) := by decide +kernel
theorem dX4_makeEmpty_5 : decode cX4_makeEmpty 5 = .ok (.return_, 1) := by decide +kernel
theorem dX4_addSign_0 : decode cX4_addSign 0 = .ok (.aload_n 0, 1) := by decide +kernel
theorem dX4_addSign_1 : decode cX4_addSign 1 = .ok (.getfield 15, 3) := by decide +kernel
theorem dX4_addSign_4 : decode cX4_addSign 4 = .ok (.bipush 54, 2) := by decide +kernel
theorem dX4_addSign_6 : decode cX4_addSign 6 = .ok (.if_icmp .ge 25, 3) := by decide +kernel
theorem dX4_addSign_9 : decode cX4_addSign 9 = .ok (.aload_n 0, 1) := by decide +kernel
theorem dX4_addSign_10 : decode cX4_addSign 10 = .ok (.getfield 9, 3) := by decide +kernel
theorem dX4_addSign_13 : decode cX4_addSign 13 = .ok (.aload_n 0, 1) := by decide +kernel
theorem dX4_addSign_14 : decode cX4_addSign 14 = .ok (.getfield 15, 3) := by decide +kernel
theorem dX4_addSign_17 : decode cX4_addSign 17 = .ok (.iload_n 1, 1) := by decide +kernel
theorem dX4_addSign_18 : decode cX4_addSign 18 = .ok (.invokestatic 19, 3) := by decide +kernel
theorem dX4_addSign_21 : decode cX4_addSign 21 = .ok (.aload_n 0, 1) := by decide +kernel
theorem dX4_addSign_22 : decode cX4_addSign 22 = .ok (.dup, 1) := by decide +kernel
theorem dX4_addSign_23 : decode cX4_addSign 23 = .ok (.getfield 15, 3) := by decide +kernel
theorem dX4_addSign_26 : decode cX4_addSign 26 = .ok (.iconst 1, 1) := by decide +kernel
theorem dX4_addSign_27 : decode cX4_addSign 27 = .ok (.iadd, 1) := by decide +kernel
theorem dX4_addSign_28 : decode cX4_addSign 28 = .ok (.putfield 15, 3) := by decide +kernel
theorem dX4_addSign_31 : decode cX4_addSign 31 = .ok (.return_, 1) := by decide +kernel
theorem dX4_addNumber_0 : decode cX4_addNumber 0 = .ok (.iload_n 1, 1) := by decide +kernel
theorem dX4_addNumber_1 : decode cX4_addNumber 1 = .ok (.bipush 10, 2) := by decide +kernel
theorem dX4_addNumber_3 : decode cX4_addNumber 3 = .ok (.if_icmp .lt 15, 3) := by decide +kernel
theorem dX4_addNumber_6 : decode cX4_addNumber 6 = .ok (.aload_n 0, 1) := by decide +kernel
theorem dX4_addNumber_7 : decode cX4_addNumber 7 = .ok (.bipush 48, 2) := by decide +kernel
theorem dX4_addNumber_9 : decode cX4_addNumber 9 = .ok (.iload_n 1, 1) := by decide +kernel
theorem dX4_addNumber_10 : decode cX4_addNumber 10 = .ok (.bipush 10, 2) := by decide +kernel
theorem dX4_addNumber_12 : decode cX4_addNumber 12 = .ok (.idiv, 1) := by decide +kernel
theorem dX4_addNumber_13 : decode cX4_addNumber 13 = .ok (.iadd, 1) := by decide +kernel
theorem dX4_addNumber_14 : decode cX4_addNumber 14 = .ok (.i2c, 1) := by decide +kernel
theorem dX4_addNumber_15 : decode cX4_addNumber 15 = .ok (.invokevirtual 23, 3) := by decide +kernel
theorem dX4_addNumber_18 : decode cX4_addNumber 18 = .ok (.aload_n 0, 1) := by decide +kernel
theorem dX4_addNumber_19 : decode cX4_addNumber 19 = .ok (.bipush 48, 2) := by decide +kernel
theorem dX4_addNumber_21 : decode cX4_addNumber 21 = .ok (.iload_n 1, 1) := by decide +kernel
theorem dX4_addNumber_22 : decode cX4_addNumber 22 = .ok (.bipush 10, 2) := by decide +kernel
theorem dX4_addNumber_24 : decode cX4_addNumber 24 = .ok (.irem, 1) := by decide +kernel
theorem dX4_addNumber_25 : decode cX4_addNumber 25 = .ok (.iadd, 1) := by decide +kernel
theorem dX4_addNumber_26 : decode cX4_addNumber 26 = .ok (.i2c, 1) := by decide +kernel
theorem dX4_addNumber_27 : decode cX4_addNumber 27 = .ok (.invokevirtual 23, 3) := by decide +kernel
theorem dX4_addNumber_30 : decode cX4_addNumber 30 = .ok (.return_, 1) := by decide +kernel
theorem dX4_codeAt_0 : decode cX4_codeAt 0 = .ok (.iload_n 1, 1) := by decide +kernel
theorem dX4_codeAt_1 : decode cX4_codeAt 1 = .ok (.aload_n 0, 1) := by decide +kernel
theorem dX4_codeAt_2 : decode cX4_codeAt 2 = .ok (.getfield 15, 3) := by decide +kernel
theorem dX4_codeAt_5 : decode cX4_codeAt 5 = .ok (.if_icmp .ge 14, 3) := by decide +kernel
theorem dX4_codeAt_8 : decode cX4_codeAt 8 = .ok (.aload_n 0, 1) := by decide +kernel
theorem dX4_codeAt_9 : decode cX4_codeAt 9 = .ok (.getfield 9, 3) := by decide +kernel
theorem dX4_codeAt_12 : decode cX4_codeAt 12 = .ok (.iload_n 1, 1) := by decide +kernel
theorem dX4_codeAt_13 : decode cX4_codeAt 13 = .ok (.invokestatic 27, 3) := by decide +kernel
theorem dX4_codeAt_16 : decode cX4_codeAt 16 = .ok (.goto 4, 3) := by decide +kernel
theorem dX4_codeAt_19 : decode cX4_codeAt 19 = .ok (.iconst (-1), 1) := by decide +kernel
theorem dX4_codeAt_20 : decode cX4_codeAt 20 = .ok (.ireturn, 1) := by decide +kernel
theorem dX5_init_0 : decode cX5_init 0 = .ok (.aload_n 0, 1) := by decide +kernel
theorem dX5_init_1 : decode cX5_init 1 = .ok (.invokespecial 3, 3) := by decide +kernel
theorem dX5_init_4 : decode cX5_init 4 = .ok (.aload_n 0, 1) := by decide +kernel
theorem dX5_init_5 : decode cX5_init 5 = .ok (.new 9, 3) := by decide +kernel
theorem dX5_init_8 : decode cX5_init 8 = .ok (.dup, 1) := by decide +kernel
theorem dX5_init_9 : decode cX5_init 9 = .ok (.invokespecial 11, 3) := by decide +kernel
theorem dX5_init_12 : decode cX5_init 12 = .ok (.putfield 12, 3) := by decide +kernel
theorem dX5_init_15 : decode cX5_init 15 = .ok (.aload_n 0, 1) := by decide +kernel
theorem dX5_init_16 : decode cX5_init 16 = .ok (.new 18, 3) := by decide +kernel
theorem dX5_init_19 : decode cX5_init 19 = .ok (.dup, 1) := by decide +kernel
theorem dX5_init_20 : decode cX5_init 20 = .ok (.invokespecial 20, 3) := by decide +kernel
theorem dX5_init_23 : decode cX5_init 23 = .ok (.putfield 21, 3) := by decide +kernel
theorem dX5_init_26 : decode cX5_init 26 = .ok (.aload_n 0, 1) := by decide +kernel
theorem dX5_init_27 : decode cX5_init 27 = .ok (.new 25, 3) := by decide +kernel
theorem dX5_init_30 : decode cX5_init 30 = .ok (.dup, 1) := by decide +kernel
theorem dX5_init_31 : decode cX5_init 31 = .ok (.invokespecial 27, 3) := by decide +kernel
theorem dX5_init_34 : decode cX5_init 34 = .ok (.putfield 28, 3) := by decide +kernel
theorem dX5_init_37 : decode cX5_init 37 = .ok (.aload_n 0, 1) := by decide +kernel
theorem dX5_init_38 : decode cX5_init 38 = .ok (.invokevirtual 32, 3) := by decide +kernel
theorem dX5_init_41 : decode cX5_init 41 = .ok (.return_, 1) := by decide +kernel
theorem dX5_makeEmpty_0 : decode cX5_makeEmpty 0 = .ok (.aload_n 0, 1) := by decide +kernel
theorem dX5_makeEmpty_1 : decode cX5_makeEmpty 1 = .ok (.getfield 12, 3) := by decide +kernel
theorem dX5_makeEmpty_4 : decode cX5_makeEmpty 4 = .ok (.invokevirtual 35, 3) := by decide +kernel
theorem dX5_makeEmpty_7 : decode cX5_makeEmpty 7 = .ok (.aload_n 0, 1) := by decide +kernel
theorem dX5_makeEmpty_8 : decode cX5_makeEmpty 8 = .ok (.getfield 21, 3) := by decide +kernel
theorem dX5_makeEmpty_11 : decode cX5_makeEmpty 11 = .ok (.invokevirtual 36, 3) := by decide +kernel
theorem dX5_makeEmpty_14 : decode cX5_makeEmpty 14 = .ok (.aload_n 0, 1) := by decide +kernel
theorem dX5_makeEmpty_15 : decode cX5_makeEmpty 15 = .ok (.getfield 28, 3) := by decide +kernel
theorem dX5_makeEmpty_18 : decode cX5_makeEmpty 18 = .ok (.invokevirtual 37, 3) := by decide +kernel
theorem dX5_makeEmpty_21 : decode cX5_makeEmpty 21 = .ok (.aload_n 0, 1) := by decide +kernel
theorem dX5_makeEmpty_22 : decode cX5_makeEmpty 22 = .ok (.iconst 0, 1) := by decide +kernel
theorem dX5_makeEmpty_23 : decode cX5_makeEmpty 23 = .ok (.putfield 38, 3) := by decide +kernel
theorem dX5_makeEmpty_26 : decode cX5_makeEmpty 26 = .ok (.aload_n 0, 1) := by decide +kernel
theorem dX5_makeEmpty_27 : decode cX5_makeEmpty 27 = .ok (.iconst 0, 1) := by decide +kernel
theorem dX5_makeEmpty_28 : decode cX5_makeEmpty 28 = .ok (.putfield 42, 3) := by decide +kernel
theorem dX5_makeEmpty_31 : decode cX5_makeEmpty 31 = .ok (.aload_n 0, 1) := by decide +kernel
theorem dX5_makeEmpty_32 : decode cX5_makeEmpty 32 = .ok (.iconst 0, 1) := by decide +kernel
theorem dX5_makeEmpty_33 : decode cX5_makeEmpty 33 = .ok (.putfield 45, 3) := by decide +kernel
theorem dX5_makeEmpty_36 : decode cX5_makeEmpty 36 = .ok (.return_, 1) := by decide +kernel
theorem dX5_takeOver_0 : decode cX5_takeOver 0 = .ok (.aload_n 1, 1) := by decide +kernel
theorem dX5_takeOver_1 : decode cX5_takeOver 1 = .ok (.ifnonnull 4, 3) := by decide +kernel
theorem dX5_takeOver_4 : decode cX5_takeOver 4 = .ok (.return_, 1) := by decide +kernel
theorem dX5_takeOver_5 : decode cX5_takeOver 5 = .ok (.aload_n 0, 1) := by decide +kernel
theorem dX5_takeOver_6 : decode cX5_takeOver 6 = .ok (.getfield 12, 3) := by decide +kernel
theorem dX5_takeOver_9 : decode cX5_takeOver 9 = .ok (.aload_n 1, 1) := by decide +kernel
theorem dX5_takeOver_10 : decode cX5_takeOver 10 = .ok (.getfield 12, 3) := by decide +kernel
theorem dX5_takeOver_13 : decode cX5_takeOver 13 = .ok (.invokevirtual 48, 3) := by decide +kernel
theorem dX5_takeOver_16 : decode cX5_takeOver 16 = .ok (.aload_n 0, 1) := by decide +kernel
theorem dX5_takeOver_17 : decode cX5_takeOver 17 = .ok (.getfield 21, 3) := by decide +kernel
theorem dX5_takeOver_20 : decode cX5_takeOver 20 = .ok (.aload_n 1, 1) := by decide +kernel
theorem dX5_takeOver_21 : decode cX5_takeOver 21 = .ok (.getfield 21, 3) := by decide +kernel
theorem dX5_takeOver_24 : decode cX5_takeOver 24 = .ok (.invokevirtual 52, 3) := by decide +kernel
theorem dX5_takeOver_27 : decode cX5_takeOver 27 = .ok (.aload_n 0, 1) := by decide +kernel
theorem dX5_takeOver_28 : decode cX5_takeOver 28 = .ok (.getfield 28, 3) := by decide +kernel
theorem dX5_takeOver_31 : decode cX5_takeOver 31 = .ok (.aload_n 1, 1) := by decide +kernel
theorem dX5_takeOver_32 : decode cX5_takeOver 32 = .ok (.getfield 28, 3) := by decide +kernel
theorem dX5_takeOver_35 : decode cX5_takeOver 35 = .ok (.invokevirtual 55, 3) := by decide +kernel
theorem dX5_takeOver_38 : decode cX5_takeOver 38 = .ok (.aload_n 0, 1) := by decide +kernel
theorem dX5_takeOver_39 : decode cX5_takeOver 39 = .ok (.aload_n 1, 1) := by decide +kernel
theorem dX5_takeOver_40 : decode cX5_takeOver 40 = .ok (.getfield 38, 3) := by decide +kernel
theorem dX5_takeOver_43 : decode cX5_takeOver 43 = .ok (.putfield 38, 3) := by decide +kernel
theorem dX5_takeOver_46 : decode cX5_takeOver 46 = .ok (.aload_n 0, 1) := by decide +kernel
theorem dX5_takeOver_47 : decode cX5_takeOver 47 = .ok (.aload_n 1, 1) := by decide +kernel
theorem dX5_takeOver_48 : decode cX5_takeOver 48 = .ok (.getfield 42, 3) := by decide +kernel
theorem dX5_takeOver_51 : decode cX5_takeOver 51 = .ok (.putfield 42, 3) := by decide +kernel
theorem dX5_takeOver_54 : decode cX5_takeOver 54 = .ok (.aload_n 0, 1) := by decide +kernel
theorem dX5_takeOver_55 : decode cX5_takeOver 55 = .ok (.aload_n 1, 1) := by decide +kernel
theorem dX5_takeOver_56 : decode cX5_takeOver 56 = .ok (.getfield 45, 3) := by decide +kernel
theorem dX5_takeOver_59 : decode cX5_takeOver 59 = .ok (.putfield 45, 3) := by decide +kernel
theorem dX5_takeOver_62 : decode cX5_takeOver 62 = .ok (.return_, 1) := by decide +kernel
theorem dX5_addBlock_0 : decode cX5_addBlock 0 = .ok (.iload_n 1, 1) := by decide +kernel
theorem dX5_addBlock_1 : decode cX5_addBlock 1 = .ok (.invokestatic 58, 3) := by decide +kernel
theorem dX5_addBlock_4 : decode cX5_addBlock 4 = .ok (.ifCond .ne 6, 3) := by decide +kernel
theorem dX5_addBlock_7 : decode cX5_addBlock 7 = .ok (.bipush (-2), 2) := by decide +kernel
theorem dX5_addBlock_9 : decode cX5_addBlock 9 = .ok (.ireturn, 1) := by decide +kernel
theorem dX5_addBlock_10 : decode cX5_addBlock 10 = .ok (.aload_n 0, 1) := by decide +kernel
theorem dX5_addBlock_11 : decode cX5_addBlock 11 = .ok (.getfield 12, 3) := by decide +kernel
theorem dX5_addBlock_14 : decode cX5_addBlock 14 = .ok (.getfield 62, 3) := by decide +kernel
theorem dX5_addBlock_17 : decode cX5_addBlock 17 = .ok (.bipush 16, 2) := by decide +kernel
theorem dX5_addBlock_19 : decode cX5_addBlock 19 = .ok (.if_icmp .lt 11, 3) := by decide +kernel
theorem dX5_addBlock_22 : decode cX5_addBlock 22 = .ok (.aload_n 2, 1) := by decide +kernel
theorem dX5_addBlock_23 : decode cX5_addBlock 23 = .ok (.iconst 1, 1) := by decide +kernel
theorem dX5_addBlock_24 : decode cX5_addBlock 24 = .ok (.bipush 16, 2) := by decide +kernel
theorem dX5_addBlock_26 : decode cX5_addBlock 26 = .ok (.invokevirtual 65, 3) := by decide +kernel
theorem dX5_addBlock_29 : decode cX5_addBlock 29 = .ok (.ireturn, 1) := by decide +kernel
theorem dX5_addBlock_30 : decode cX5_addBlock 30 = .ok (.aload_n 0, 1) := by decide +kernel
theorem dX5_addBlock_31 : decode cX5_addBlock 31 = .ok (.getfield 12, 3) := by decide +kernel
theorem dX5_addBlock_34 : decode cX5_addBlock 34 = .ok (.iload_n 1, 1) := by decide +kernel
theorem dX5_addBlock_35 : decode cX5_addBlock 35 = .ok (.invokevirtual 71, 3) := by decide +kernel
theorem dX5_addBlock_38 : decode cX5_addBlock 38 = .ok (.ireturn, 1) := by decide +kernel
theorem dX5_hangOn_0 : decode cX5_hangOn 0 = .ok (.aload_n 0, 1) := by decide +kernel
theorem dX5_hangOn_1 : decode cX5_hangOn 1 = .ok (.getfield 12, 3) := by decide +kernel
theorem dX5_hangOn_4 : decode cX5_hangOn 4 = .ok (.iload_n 1, 1) := by decide +kernel
theorem dX5_hangOn_5 : decode cX5_hangOn 5 = .ok (.invokevirtual 75, 3) := by decide +kernel
theorem dX5_hangOn_8 : decode cX5_hangOn 8 = .ok (.ifCond .eq 14, 3) := by decide +kernel
theorem dX5_hangOn_11 : decode cX5_hangOn 11 = .ok (.aload_n 0, 1) := by decide +kernel
theorem dX5_hangOn_12 : decode cX5_hangOn 12 = .ok (.getfield 12, 3) := by decide +kernel
theorem dX5_hangOn_15 : decode cX5_hangOn 15 = .ok (.iload_n 2, 1) := by decide +kernel
theorem dX5_hangOn_16 : decode cX5_hangOn 16 = .ok (.invokevirtual 75, 3) := by decide +kernel
theorem dX5_hangOn_19 : decode cX5_hangOn 19 = .ok (.ifCond .ne 5, 3) := by decide +kernel
theorem dX5_hangOn_22 : decode cX5_hangOn 22 = .ok (.iconst (-1), 1) := by decide +kernel
theorem dX5_hangOn_23 : decode cX5_hangOn 23 = .ok (.ireturn, 1) := by decide +kernel
theorem dX5_hangOn_24 : decode cX5_hangOn 24 = .ok (.aload_n 0, 1) := by decide +kernel
theorem dX5_hangOn_25 : decode cX5_hangOn 25 = .ok (.getfield 12, 3) := by decide +kernel
theorem dX5_hangOn_28 : decode cX5_hangOn 28 = .ok (.iload_n 1, 1) := by decide +kernel
theorem dX5_hangOn_29 : decode cX5_hangOn 29 = .ok (.invokevirtual 78, 3) := by decide +kernel
theorem dX5_hangOn_32 : decode cX5_hangOn 32 = .ok (.ifCond .lt 17, 3) := by decide +kernel
theorem dX5_hangOn_35 : decode cX5_hangOn 35 = .ok (.aload_n 3, 1) := by decide +kernel
theorem dX5_hangOn_36 : decode cX5_hangOn 36 = .ok (.iconst 2, 1) := by decide +kernel
theorem dX5_hangOn_37 : decode cX5_hangOn 37 = .ok (.aload_n 0, 1) := by decide +kernel
theorem dX5_hangOn_38 : decode cX5_hangOn 38 = .ok (.getfield 12, 3) := by decide +kernel
theorem dX5_hangOn_41 : decode cX5_hangOn 41 = .ok (.iload_n 1, 1) := by decide +kernel
theorem dX5_hangOn_42 : decode cX5_hangOn 42 = .ok (.invokevirtual 78, 3) := by decide +kernel
theorem dX5_hangOn_45 : decode cX5_hangOn 45 = .ok (.invokevirtual 65, 3) := by decide +kernel
theorem dX5_hangOn_48 : decode cX5_hangOn 48 = .ok (.ireturn, 1) := by decide +kernel
theorem dX5_hangOn_49 : decode cX5_hangOn 49 = .ok (.aload_n 0, 1) := by decide +kernel
theorem dX5_hangOn_50 : decode cX5_hangOn 50 = .ok (.getfield 12, 3) := by decide +kernel
theorem dX5_hangOn_53 : decode cX5_hangOn 53 = .ok (.iload_n 2, 1) := by decide +kernel
theorem dX5_hangOn_54 : decode cX5_hangOn 54 = .ok (.invokevirtual 81, 3) := by decide +kernel
theorem dX5_hangOn_57 : decode cX5_hangOn 57 = .ok (.iload_n 1, 1) := by decide +kernel
theorem dX5_hangOn_58 : decode cX5_hangOn 58 = .ok (.if_icmp .ne 10, 3) := by decide +kernel
theorem dX5_hangOn_61 : decode cX5_hangOn 61 = .ok (.aload_n 3, 1) := by decide +kernel
theorem dX5_hangOn_62 : decode cX5_hangOn 62 = .ok (.iconst 3, 1) := by decide +kernel
theorem dX5_hangOn_63 : decode cX5_hangOn 63 = .ok (.iload_n 1, 1) := by decide +kernel
theorem dX5_hangOn_64 : decode cX5_hangOn 64 = .ok (.invokevirtual 65, 3) := by decide +kernel
theorem dX5_hangOn_67 : decode cX5_hangOn 67 = .ok (.ireturn, 1) := by decide +kernel
theorem dX5_hangOn_68 : decode cX5_hangOn 68 = .ok (.aload_n 0, 1) := by decide +kernel
theorem dX5_hangOn_69 : decode cX5_hangOn 69 = .ok (.iload_n 1, 1) := by decide +kernel
theorem dX5_hangOn_70 : decode cX5_hangOn 70 = .ok (.invokevirtual 84, 3) := by decide +kernel
theorem dX5_hangOn_73 : decode cX5_hangOn 73 = .ok (.aload_n 0, 1) := by decide +kernel
theorem dX5_hangOn_74 : decode cX5_hangOn 74 = .ok (.iload_n 2, 1) := by decide +kernel
theorem dX5_hangOn_75 : decode cX5_hangOn 75 = .ok (.invokevirtual 84, 3) := by decide +kernel
theorem dX5_hangOn_78 : decode cX5_hangOn 78 = .ok (.aload_n 0, 1) := by decide +kernel
theorem dX5_hangOn_79 : decode cX5_hangOn 79 = .ok (.getfield 12, 3) := by decide +kernel
theorem dX5_hangOn_82 : decode cX5_hangOn 82 = .ok (.getfield 88, 3) := by decide +kernel
theorem dX5_hangOn_85 : decode cX5_hangOn 85 = .ok (.iload_n 1, 1) := by decide +kernel
theorem dX5_hangOn_86 : decode cX5_hangOn 86 = .ok (.iload_n 2, 1) := by decide +kernel
theorem dX5_hangOn_87 : decode cX5_hangOn 87 = .ok (.invokestatic 92, 3) := by decide +kernel
theorem dX5_hangOn_90 : decode cX5_hangOn 90 = .ok (.aload_n 0, 1) := by decide +kernel
theorem dX5_hangOn_91 : decode cX5_hangOn 91 = .ok (.dup, 1) := by decide +kernel
theorem dX5_hangOn_92 : decode cX5_hangOn 92 = .ok (.getfield 42, 3) := by decide +kernel
theorem dX5_hangOn_95 : decode cX5_hangOn 95 = .ok (.iconst 1, 1) := by decide +kernel
theorem dX5_hangOn_96 : decode cX5_hangOn 96 = .ok (.iadd, 1) := by decide +kernel
theorem dX5_hangOn_97 : decode cX5_hangOn 97 = .ok (.putfield 42, 3) := by decide +kernel
theorem dX5_hangOn_100 : decode cX5_hangOn 100 = .ok (.aload_n 0, 1) := by decide +kernel
theorem dX5_hangOn_101 : decode cX5_hangOn 101 = .ok (.getfield 12, 3) := by decide +kernel
theorem dX5_hangOn_104 : decode cX5_hangOn 104 = .ok (.iload_n 1, 1) := by decide +kernel
theorem dX5_hangOn_105 : decode cX5_hangOn 105 = .ok (.invokevirtual 96, 3) := by decide +kernel
theorem dX5_hangOn_108 : decode cX5_hangOn 108 = .ok (.ireturn, 1) := by decide +kernel
theorem dX5_cutOff_0 : decode cX5_cutOff 0 = .ok (.aload_n 0, 1) := by decide +kernel
theorem dX5_cutOff_1 : decode cX5_cutOff 1 = .ok (.getfield 12, 3) := by decide +kernel
theorem dX5_cutOff_4 : decode cX5_cutOff 4 = .ok (.iload_n 1, 1) := by decide +kernel
theorem dX5_cutOff_5 : decode cX5_cutOff 5 = .ok (.invokevirtual 75, 3) := by decide +kernel
theorem dX5_cutOff_8 : decode cX5_cutOff 8 = .ok (.ifCond .ne 5, 3) := by decide +kernel
theorem dX5_cutOff_11 : decode cX5_cutOff 11 = .ok (.iconst (-1), 1) := by decide +kernel
theorem dX5_cutOff_12 : decode cX5_cutOff 12 = .ok (.ireturn, 1) := by decide +kernel
theorem dX5_cutOff_13 : decode cX5_cutOff 13 = .ok (.aload_n 0, 1) := by decide +kernel
theorem dX5_cutOff_14 : decode cX5_cutOff 14 = .ok (.getfield 12, 3) := by decide +kernel
theorem dX5_cutOff_17 : decode cX5_cutOff 17 = .ok (.iload_n 1, 1) := by decide +kernel
theorem dX5_cutOff_18 : decode cX5_cutOff 18 = .ok (.invokevirtual 78, 3) := by decide +kernel
theorem dX5_cutOff_21 : decode cX5_cutOff 21 = .ok (.istore_n 3, 1) := by decide +kernel
theorem dX5_cutOff_22 : decode cX5_cutOff 22 = .ok (.iload_n 3, 1) := by decide +kernel
theorem dX5_cutOff_23 : decode cX5_cutOff 23 = .ok (.ifCond .ge 10, 3) := by decide +kernel
theorem dX5_cutOff_26 : decode cX5_cutOff 26 = .ok (.aload_n 2, 1) := by decide +kernel
theorem dX5_cutOff_27 : decode cX5_cutOff 27 = .ok (.iconst 4, 1) := by decide +kernel
theorem dX5_cutOff_28 : decode cX5_cutOff 28 = .ok (.iload_n 1, 1) := by decide +kernel
theorem dX5_cutOff_29 : decode cX5_cutOff 29 = .ok (.invokevirtual 65, 3) := by decide +kernel
theorem dX5_cutOff_32 : decode cX5_cutOff 32 = .ok (.ireturn, 1) := by decide +kernel
theorem dX5_cutOff_33 : decode cX5_cutOff 33 = .ok (.aload_n 0, 1) := by decide +kernel
theorem dX5_cutOff_34 : decode cX5_cutOff 34 = .ok (.iload_n 1, 1) := by decide +kernel
theorem dX5_cutOff_35 : decode cX5_cutOff 35 = .ok (.invokevirtual 84, 3) := by decide +kernel
theorem dX5_cutOff_38 : decode cX5_cutOff 38 = .ok (.aload_n 0, 1) := by decide +kernel
theorem dX5_cutOff_39 : decode cX5_cutOff 39 = .ok (.getfield 21, 3) := by decide +kernel
theorem dX5_cutOff_42 : decode cX5_cutOff 42 = .ok (.iload_n 1, 1) := by decide +kernel
theorem dX5_cutOff_43 : decode cX5_cutOff 43 = .ok (.invokevirtual 99, 3) := by decide +kernel
theorem dX5_cutOff_46 : decode cX5_cutOff 46 = .ok (.aload_n 0, 1) := by decide +kernel
theorem dX5_cutOff_47 : decode cX5_cutOff 47 = .ok (.getfield 12, 3) := by decide +kernel
theorem dX5_cutOff_50 : decode cX5_cutOff 50 = .ok (.getfield 88, 3) := by decide +kernel
theorem dX5_cutOff_53 : decode cX5_cutOff 53 = .ok (.iload_n 1, 1) := by decide +kernel
theorem dX5_cutOff_54 : decode cX5_cutOff 54 = .ok (.iconst (-1), 1) := by decide +kernel
theorem dX5_cutOff_55 : decode cX5_cutOff 55 = .ok (.invokestatic 92, 3) := by decide +kernel
theorem dX5_cutOff_58 : decode cX5_cutOff 58 = .ok (.aload_n 0, 1) := by decide +kernel
theorem dX5_cutOff_59 : decode cX5_cutOff 59 = .ok (.dup, 1) := by decide +kernel
theorem dX5_cutOff_60 : decode cX5_cutOff 60 = .ok (.getfield 45, 3) := by decide +kernel
theorem dX5_cutOff_63 : decode cX5_cutOff 63 = .ok (.iconst 1, 1) := by decide +kernel
theorem dX5_cutOff_64 : decode cX5_cutOff 64 = .ok (.iadd, 1) := by decide +kernel
theorem dX5_cutOff_65 : decode cX5_cutOff 65 = .ok (.putfield 45, 3) := by decide +kernel
theorem dX5_cutOff_68 : decode cX5_cutOff 68 = .ok (.iload_n 3, 1) := by decide +kernel
theorem dX5_cutOff_69 : decode cX5_cutOff 69 = .ok (.ireturn, 1) := by decide +kernel
theorem dX5_walkTo_0 : decode cX5_walkTo 0 = .ok (.aload_n 0, 1) := by decide +kernel
theorem dX5_walkTo_1 : decode cX5_walkTo 1 = .ok (.getfield 12, 3) := by decide +kernel
theorem dX5_walkTo_4 : decode cX5_walkTo 4 = .ok (.iload_n 1, 1) := by decide +kernel
theorem dX5_walkTo_5 : decode cX5_walkTo 5 = .ok (.invokevirtual 75, 3) := by decide +kernel
theorem dX5_walkTo_8 : decode cX5_walkTo 8 = .ok (.ifCond .ne 5, 3) := by decide +kernel
theorem dX5_walkTo_11 : decode cX5_walkTo 11 = .ok (.iconst (-1), 1) := by decide +kernel
theorem dX5_walkTo_12 : decode cX5_walkTo 12 = .ok (.ireturn, 1) := by decide +kernel
theorem dX5_walkTo_13 : decode cX5_walkTo 13 = .ok (.aload_n 0, 1) := by decide +kernel
theorem dX5_walkTo_14 : decode cX5_walkTo 14 = .ok (.iload_n 1, 1) := by decide +kernel
theorem dX5_walkTo_15 : decode cX5_walkTo 15 = .ok (.invokevirtual 84, 3) := by decide +kernel
theorem dX5_walkTo_18 : decode cX5_walkTo 18 = .ok (.aload_n 0, 1) := by decide +kernel
theorem dX5_walkTo_19 : decode cX5_walkTo 19 = .ok (.getfield 12, 3) := by decide +kernel
theorem dX5_walkTo_22 : decode cX5_walkTo 22 = .ok (.iload_n 1, 1) := by decide +kernel
theorem dX5_walkTo_23 : decode cX5_walkTo 23 = .ok (.invokevirtual 102, 3) := by decide +kernel
theorem dX5_walkTo_26 : decode cX5_walkTo 26 = .ok (.ireturn, 1) := by decide +kernel
theorem dX5_goUp_0 : decode cX5_goUp 0 = .ok (.aload_n 0, 1) := by decide +kernel
theorem dX5_goUp_1 : decode cX5_goUp 1 = .ok (.getfield 12, 3) := by decide +kernel
theorem dX5_goUp_4 : decode cX5_goUp 4 = .ok (.iload_n 1, 1) := by decide +kernel
theorem dX5_goUp_5 : decode cX5_goUp 5 = .ok (.invokevirtual 75, 3) := by decide +kernel
theorem dX5_goUp_8 : decode cX5_goUp 8 = .ok (.ifCond .ne 5, 3) := by decide +kernel
theorem dX5_goUp_11 : decode cX5_goUp 11 = .ok (.iconst (-1), 1) := by decide +kernel
theorem dX5_goUp_12 : decode cX5_goUp 12 = .ok (.ireturn, 1) := by decide +kernel
theorem dX5_goUp_13 : decode cX5_goUp 13 = .ok (.aload_n 0, 1) := by decide +kernel
theorem dX5_goUp_14 : decode cX5_goUp 14 = .ok (.iload_n 1, 1) := by decide +kernel
theorem dX5_goUp_15 : decode cX5_goUp 15 = .ok (.invokevirtual 84, 3) := by decide +kernel
theorem dX5_goUp_18 : decode cX5_goUp 18 = .ok (.aload_n 0, 1) := by decide +kernel
theorem dX5_goUp_19 : decode cX5_goUp 19 = .ok (.getfield 12, 3) := by decide +kernel
theorem dX5_goUp_22 : decode cX5_goUp 22 = .ok (.iload_n 1, 1) := by decide +kernel
theorem dX5_goUp_23 : decode cX5_goUp 23 = .ok (.invokevirtual 81, 3) := by decide +kernel
theorem dX5_goUp_26 : decode cX5_goUp 26 = .ok (.istore_n 2, 1) := by decide +kernel
theorem dX5_goUp_27 : decode cX5_goUp 27 = .ok (.aload_n 0, 1) := by decide +kernel
theorem dX5_goUp_28 : decode cX5_goUp 28 = .ok (.getfield 21, 3) := by decide +kernel
theorem dX5_goUp_31 : decode cX5_goUp 31 = .ok (.iload_n 2, 1) := by decide +kernel
theorem dX5_goUp_32 : decode cX5_goUp 32 = .ok (.invokevirtual 105, 3) := by decide +kernel
theorem dX5_goUp_35 : decode cX5_goUp 35 = .ok (.iload_n 2, 1) := by decide +kernel
theorem dX5_goUp_36 : decode cX5_goUp 36 = .ok (.ireturn, 1) := by decide +kernel
theorem dX5_changeWeight_0 : decode cX5_changeWeight 0 = .ok (.aload_n 0, 1) := by decide +kernel
theorem dX5_changeWeight_1 : decode cX5_changeWeight 1 = .ok (.getfield 12, 3) := by decide +kernel
theorem dX5_changeWeight_4 : decode cX5_changeWeight 4 = .ok (.iload_n 1, 1) := by decide +kernel
theorem dX5_changeWeight_5 : decode cX5_changeWeight 5 = .ok (.invokevirtual 75, 3) := by decide +kernel
theorem dX5_changeWeight_8 : decode cX5_changeWeight 8 = .ok (.ifCond .ne 5, 3) := by decide +kernel
theorem dX5_changeWeight_11 : decode cX5_changeWeight 11 = .ok (.iconst (-1), 1) := by decide +kernel
theorem dX5_changeWeight_12 : decode cX5_changeWeight 12 = .ok (.ireturn, 1) := by decide +kernel
theorem dX5_changeWeight_13 : decode cX5_changeWeight 13 = .ok (.iload_n 2, 1) := by decide +kernel
theorem dX5_changeWeight_14 : decode cX5_changeWeight 14 = .ok (.invokestatic 58, 3) := by decide +kernel
theorem dX5_changeWeight_17 : decode cX5_changeWeight 17 = .ok (.ifCond .ne 6, 3) := by decide +kernel
theorem dX5_changeWeight_20 : decode cX5_changeWeight 20 = .ok (.bipush (-2), 2) := by decide +kernel
theorem dX5_changeWeight_22 : decode cX5_changeWeight 22 = .ok (.ireturn, 1) := by decide +kernel
theorem dX5_changeWeight_23 : decode cX5_changeWeight 23 = .ok (.aload_n 0, 1) := by decide +kernel
theorem dX5_changeWeight_24 : decode cX5_changeWeight 24 = .ok (.getfield 12, 3) := by decide +kernel
theorem dX5_changeWeight_27 : decode cX5_changeWeight 27 = .ok (.iload_n 1, 1) := by decide +kernel
theorem dX5_changeWeight_28 : decode cX5_changeWeight 28 = .ok (.invokevirtual 108, 3) := by decide +kernel
theorem dX5_changeWeight_31 : decode cX5_changeWeight 31 = .ok (.istore 4, 2) := by decide +kernel
theorem dX5_changeWeight_33 : decode cX5_changeWeight 33 = .ok (.iload 4, 2) := by decide +kernel
theorem dX5_changeWeight_35 : decode cX5_changeWeight 35 = .ok (.iload_n 2, 1) := by decide +kernel
theorem dX5_changeWeight_36 : decode cX5_changeWeight 36 = .ok (.if_icmp .ne 10, 3) := by decide +kernel
theorem dX5_changeWeight_39 : decode cX5_changeWeight 39 = .ok (.aload_n 3, 1) := by decide +kernel
theorem dX5_changeWeight_40 : decode cX5_changeWeight 40 = .ok (.iconst 5, 1) := by decide +kernel
theorem dX5_changeWeight_41 : decode cX5_changeWeight 41 = .ok (.iload_n 2, 1) := by decide +kernel
theorem dX5_changeWeight_42 : decode cX5_changeWeight 42 = .ok (.invokevirtual 65, 3) := by decide +kernel
theorem dX5_changeWeight_45 : decode cX5_changeWeight 45 = .ok (.ireturn, 1) := by decide +kernel
theorem dX5_changeWeight_46 : decode cX5_changeWeight 46 = .ok (.aload_n 0, 1) := by decide +kernel
theorem dX5_changeWeight_47 : decode cX5_changeWeight 47 = .ok (.getfield 12, 3) := by decide +kernel
theorem dX5_changeWeight_50 : decode cX5_changeWeight 50 = .ok (.getfield 111, 3) := by decide +kernel
theorem dX5_changeWeight_53 : decode cX5_changeWeight 53 = .ok (.iload_n 1, 1) := by decide +kernel
theorem dX5_changeWeight_54 : decode cX5_changeWeight 54 = .ok (.iload_n 2, 1) := by decide +kernel
theorem dX5_changeWeight_55 : decode cX5_changeWeight 55 = .ok (.invokestatic 92, 3) := by decide +kernel
theorem dX5_changeWeight_58 : decode cX5_changeWeight 58 = .ok (.iload 4, 2) := by decide +kernel
theorem dX5_changeWeight_60 : decode cX5_changeWeight 60 = .ok (.ireturn, 1) := by decide +kernel
theorem dX5_setSledge_0 : decode cX5_setSledge 0 = .ok (.aload_n 0, 1) := by decide +kernel
theorem dX5_setSledge_1 : decode cX5_setSledge 1 = .ok (.getfield 12, 3) := by decide +kernel
theorem dX5_setSledge_4 : decode cX5_setSledge 4 = .ok (.iload_n 1, 1) := by decide +kernel
theorem dX5_setSledge_5 : decode cX5_setSledge 5 = .ok (.invokevirtual 75, 3) := by decide +kernel
theorem dX5_setSledge_8 : decode cX5_setSledge 8 = .ok (.ifCond .ne 5, 3) := by decide +kernel
theorem dX5_setSledge_11 : decode cX5_setSledge 11 = .ok (.iconst (-1), 1) := by decide +kernel
theorem dX5_setSledge_12 : decode cX5_setSledge 12 = .ok (.ireturn, 1) := by decide +kernel
theorem dX5_setSledge_13 : decode cX5_setSledge 13 = .ok (.aload_n 0, 1) := by decide +kernel
theorem dX5_setSledge_14 : decode cX5_setSledge 14 = .ok (.getfield 28, 3) := by decide +kernel
theorem dX5_setSledge_17 : decode cX5_setSledge 17 = .ok (.getfield 114, 3) := by decide +kernel
theorem dX5_setSledge_20 : decode cX5_setSledge 20 = .ok (.iconst 3, 1) := by decide +kernel
theorem dX5_setSledge_21 : decode cX5_setSledge 21 = .ok (.if_icmp .lt 10, 3) := by decide +kernel
theorem dX5_setSledge_24 : decode cX5_setSledge 24 = .ok (.aload_n 2, 1) := by decide +kernel
theorem dX5_setSledge_25 : decode cX5_setSledge 25 = .ok (.iconst 1, 1) := by decide +kernel
theorem dX5_setSledge_26 : decode cX5_setSledge 26 = .ok (.iconst 3, 1) := by decide +kernel
theorem dX5_setSledge_27 : decode cX5_setSledge 27 = .ok (.invokevirtual 65, 3) := by decide +kernel
theorem dX5_setSledge_30 : decode cX5_setSledge 30 = .ok (.ireturn, 1) := by decide +kernel
theorem dX5_setSledge_31 : decode cX5_setSledge 31 = .ok (.aload_n 0, 1) := by decide +kernel
theorem dX5_setSledge_32 : decode cX5_setSledge 32 = .ok (.getfield 28, 3) := by decide +kernel
theorem dX5_setSledge_35 : decode cX5_setSledge 35 = .ok (.iload_n 1, 1) := by decide +kernel
theorem dX5_setSledge_36 : decode cX5_setSledge 36 = .ok (.aload_n 0, 1) := by decide +kernel
theorem dX5_setSledge_37 : decode cX5_setSledge 37 = .ok (.getfield 12, 3) := by decide +kernel
theorem dX5_setSledge_40 : decode cX5_setSledge 40 = .ok (.iload_n 1, 1) := by decide +kernel
theorem dX5_setSledge_41 : decode cX5_setSledge 41 = .ok (.invokevirtual 108, 3) := by decide +kernel
theorem dX5_setSledge_44 : decode cX5_setSledge 44 = .ok (.invokevirtual 115, 3) := by decide +kernel
theorem dX5_setSledge_47 : decode cX5_setSledge 47 = .ok (.ireturn, 1) := by decide +kernel
theorem dX5_pullSledges_0 : decode cX5_pullSledges 0 = .ok (.aload_n 0, 1) := by decide +kernel
theorem dX5_pullSledges_1 : decode cX5_pullSledges 1 = .ok (.getfield 28, 3) := by decide +kernel
theorem dX5_pullSledges_4 : decode cX5_pullSledges 4 = .ok (.invokevirtual 117, 3) := by decide +kernel
theorem dX5_pullSledges_7 : decode cX5_pullSledges 7 = .ok (.ifCond .ne 17, 3) := by decide +kernel
theorem dX5_pullSledges_10 : decode cX5_pullSledges 10 = .ok (.aload_n 1, 1) := by decide +kernel
theorem dX5_pullSledges_11 : decode cX5_pullSledges 11 = .ok (.bipush 6, 2) := by decide +kernel
theorem dX5_pullSledges_13 : decode cX5_pullSledges 13 = .ok (.aload_n 0, 1) := by decide +kernel
theorem dX5_pullSledges_14 : decode cX5_pullSledges 14 = .ok (.getfield 28, 3) := by decide +kernel
theorem dX5_pullSledges_17 : decode cX5_pullSledges 17 = .ok (.invokevirtual 121, 3) := by decide +kernel
theorem dX5_pullSledges_20 : decode cX5_pullSledges 20 = .ok (.invokevirtual 65, 3) := by decide +kernel
theorem dX5_pullSledges_23 : decode cX5_pullSledges 23 = .ok (.ireturn, 1) := by decide +kernel
theorem dX5_pullSledges_24 : decode cX5_pullSledges 24 = .ok (.aload_n 0, 1) := by decide +kernel
theorem dX5_pullSledges_25 : decode cX5_pullSledges 25 = .ok (.getfield 28, 3) := by decide +kernel
theorem dX5_pullSledges_28 : decode cX5_pullSledges 28 = .ok (.invokevirtual 121, 3) := by decide +kernel
theorem dX5_pullSledges_31 : decode cX5_pullSledges 31 = .ok (.istore_n 2, 1) := by decide +kernel
theorem dX5_pullSledges_32 : decode cX5_pullSledges 32 = .ok (.iconst 0, 1) := by decide +kernel
theorem dX5_pullSledges_33 : decode cX5_pullSledges 33 = .ok (.istore_n 3, 1) := by decide +kernel
theorem dX5_pullSledges_34 : decode cX5_pullSledges 34 = .ok (.iload_n 3, 1) := by decide +kernel
theorem dX5_pullSledges_35 : decode cX5_pullSledges 35 = .ok (.iconst 3, 1) := by decide +kernel
theorem dX5_pullSledges_36 : decode cX5_pullSledges 36 = .ok (.if_icmp .ge 53, 3) := by decide +kernel
theorem dX5_pullSledges_39 : decode cX5_pullSledges 39 = .ok (.aload_n 0, 1) := by decide +kernel
theorem dX5_pullSledges_40 : decode cX5_pullSledges 40 = .ok (.getfield 28, 3) := by decide +kernel
theorem dX5_pullSledges_43 : decode cX5_pullSledges 43 = .ok (.iload_n 3, 1) := by decide +kernel
theorem dX5_pullSledges_44 : decode cX5_pullSledges 44 = .ok (.invokevirtual 124, 3) := by decide +kernel
theorem dX5_pullSledges_47 : decode cX5_pullSledges 47 = .ok (.ifCond .eq 36, 3) := by decide +kernel
theorem dX5_pullSledges_50 : decode cX5_pullSledges 50 = .ok (.aload_n 0, 1) := by decide +kernel
theorem dX5_pullSledges_51 : decode cX5_pullSledges 51 = .ok (.getfield 28, 3) := by decide +kernel
theorem dX5_pullSledges_54 : decode cX5_pullSledges 54 = .ok (.iload_n 3, 1) := by decide +kernel
theorem dX5_pullSledges_55 : decode cX5_pullSledges 55 = .ok (.invokevirtual 127, 3) := by decide +kernel
theorem dX5_pullSledges_58 : decode cX5_pullSledges 58 = .ok (.istore 4, 2) := by decide +kernel
theorem dX5_pullSledges_60 : decode cX5_pullSledges 60 = .ok (.aload_n 0, 1) := by decide +kernel
theorem dX5_pullSledges_61 : decode cX5_pullSledges 61 = .ok (.iload 4, 2) := by decide +kernel
theorem dX5_pullSledges_63 : decode cX5_pullSledges 63 = .ok (.invokevirtual 84, 3) := by decide +kernel
theorem dX5_pullSledges_66 : decode cX5_pullSledges 66 = .ok (.aload_n 0, 1) := by decide +kernel
theorem dX5_pullSledges_67 : decode cX5_pullSledges 67 = .ok (.getfield 28, 3) := by decide +kernel
theorem dX5_pullSledges_70 : decode cX5_pullSledges 70 = .ok (.iload_n 3, 1) := by decide +kernel
theorem dX5_pullSledges_71 : decode cX5_pullSledges 71 = .ok (.aload_n 0, 1) := by decide +kernel
theorem dX5_pullSledges_72 : decode cX5_pullSledges 72 = .ok (.getfield 12, 3) := by decide +kernel
theorem dX5_pullSledges_75 : decode cX5_pullSledges 75 = .ok (.iload 4, 2) := by decide +kernel
theorem dX5_pullSledges_77 : decode cX5_pullSledges 77 = .ok (.invokevirtual 78, 3) := by decide +kernel
theorem dX5_pullSledges_80 : decode cX5_pullSledges 80 = .ok (.invokevirtual 130, 3) := by decide +kernel
theorem dX5_pullSledges_83 : decode cX5_pullSledges 83 = .ok (.iinc 3 1, 3) := by decide +kernel
theorem dX5_pullSledges_86 : decode cX5_pullSledges 86 = .ok (.goto (-52), 3) := by decide +kernel
theorem dX5_pullSledges_89 : decode cX5_pullSledges 89 = .ok (.aload_n 0, 1) := by decide +kernel
theorem dX5_pullSledges_90 : decode cX5_pullSledges 90 = .ok (.getfield 28, 3) := by decide +kernel
theorem dX5_pullSledges_93 : decode cX5_pullSledges 93 = .ok (.invokevirtual 121, 3) := by decide +kernel
theorem dX5_pullSledges_96 : decode cX5_pullSledges 96 = .ok (.iload_n 2, 1) := by decide +kernel
theorem dX5_pullSledges_97 : decode cX5_pullSledges 97 = .ok (.isub, 1) := by decide +kernel
theorem dX5_pullSledges_98 : decode cX5_pullSledges 98 = .ok (.ireturn, 1) := by decide +kernel
theorem dX5_expose_0 : decode cX5_expose 0 = .ok (.aload_n 0, 1) := by decide +kernel
theorem dX5_expose_1 : decode cX5_expose 1 = .ok (.dup, 1) := by decide +kernel
theorem dX5_expose_2 : decode cX5_expose 2 = .ok (.getfield 38, 3) := by decide +kernel
theorem dX5_expose_5 : decode cX5_expose 5 = .ok (.iconst 1, 1) := by decide +kernel
theorem dX5_expose_6 : decode cX5_expose 6 = .ok (.iadd, 1) := by decide +kernel
theorem dX5_expose_7 : decode cX5_expose 7 = .ok (.putfield 38, 3) := by decide +kernel
theorem dX5_expose_10 : decode cX5_expose 10 = .ok (.aload_n 0, 1) := by decide +kernel
theorem dX5_expose_11 : decode cX5_expose 11 = .ok (.getfield 21, 3) := by decide +kernel
theorem dX5_expose_14 : decode cX5_expose 14 = .ok (.iload_n 1, 1) := by decide +kernel
theorem dX5_expose_15 : decode cX5_expose 15 = .ok (.invokevirtual 105, 3) := by decide +kernel
theorem dX5_expose_18 : decode cX5_expose 18 = .ok (.aload_n 0, 1) := by decide +kernel
theorem dX5_expose_19 : decode cX5_expose 19 = .ok (.getfield 21, 3) := by decide +kernel
theorem dX5_expose_22 : decode cX5_expose 22 = .ok (.iload_n 1, 1) := by decide +kernel
theorem dX5_expose_23 : decode cX5_expose 23 = .ok (.invokevirtual 134, 3) := by decide +kernel
theorem dX5_expose_26 : decode cX5_expose 26 = .ok (.iload_n 1, 1) := by decide +kernel
theorem dX5_expose_27 : decode cX5_expose 27 = .ok (.istore_n 2, 1) := by decide +kernel
theorem dX5_expose_28 : decode cX5_expose 28 = .ok (.aload_n 0, 1) := by decide +kernel
theorem dX5_expose_29 : decode cX5_expose 29 = .ok (.getfield 12, 3) := by decide +kernel
theorem dX5_expose_32 : decode cX5_expose 32 = .ok (.aload_n 0, 1) := by decide +kernel
theorem dX5_expose_33 : decode cX5_expose 33 = .ok (.getfield 21, 3) := by decide +kernel
theorem dX5_expose_36 : decode cX5_expose 36 = .ok (.iload_n 2, 1) := by decide +kernel
theorem dX5_expose_37 : decode cX5_expose 37 = .ok (.invokevirtual 137, 3) := by decide +kernel
theorem dX5_expose_40 : decode cX5_expose 40 = .ok (.invokevirtual 78, 3) := by decide +kernel
theorem dX5_expose_43 : decode cX5_expose 43 = .ok (.istore_n 3, 1) := by decide +kernel
theorem dX5_expose_44 : decode cX5_expose 44 = .ok (.iconst 0, 1) := by decide +kernel
theorem dX5_expose_45 : decode cX5_expose 45 = .ok (.istore 4, 2) := by decide +kernel
theorem dX5_expose_47 : decode cX5_expose 47 = .ok (.iload 4, 2) := by decide +kernel
theorem dX5_expose_49 : decode cX5_expose 49 = .ok (.bipush 16, 2) := by decide +kernel
theorem dX5_expose_51 : decode cX5_expose 51 = .ok (.if_icmp .ge 56, 3) := by decide +kernel
theorem dX5_expose_54 : decode cX5_expose 54 = .ok (.iload_n 3, 1) := by decide +kernel
theorem dX5_expose_55 : decode cX5_expose 55 = .ok (.ifCond .lt 52, 3) := by decide +kernel
theorem dX5_expose_58 : decode cX5_expose 58 = .ok (.aload_n 0, 1) := by decide +kernel
theorem dX5_expose_59 : decode cX5_expose 59 = .ok (.getfield 21, 3) := by decide +kernel
theorem dX5_expose_62 : decode cX5_expose 62 = .ok (.iload_n 3, 1) := by decide +kernel
theorem dX5_expose_63 : decode cX5_expose 63 = .ok (.invokevirtual 105, 3) := by decide +kernel
theorem dX5_expose_66 : decode cX5_expose 66 = .ok (.aload_n 0, 1) := by decide +kernel
theorem dX5_expose_67 : decode cX5_expose 67 = .ok (.getfield 21, 3) := by decide +kernel
theorem dX5_expose_70 : decode cX5_expose 70 = .ok (.iload_n 3, 1) := by decide +kernel
theorem dX5_expose_71 : decode cX5_expose 71 = .ok (.invokevirtual 134, 3) := by decide +kernel
theorem dX5_expose_74 : decode cX5_expose 74 = .ok (.aload_n 0, 1) := by decide +kernel
theorem dX5_expose_75 : decode cX5_expose 75 = .ok (.getfield 21, 3) := by decide +kernel
theorem dX5_expose_78 : decode cX5_expose 78 = .ok (.iload_n 3, 1) := by decide +kernel
theorem dX5_expose_79 : decode cX5_expose 79 = .ok (.iload_n 2, 1) := by decide +kernel
theorem dX5_expose_80 : decode cX5_expose 80 = .ok (.invokevirtual 140, 3) := by decide +kernel
theorem dX5_expose_83 : decode cX5_expose 83 = .ok (.iload_n 3, 1) := by decide +kernel
theorem dX5_expose_84 : decode cX5_expose 84 = .ok (.istore_n 2, 1) := by decide +kernel
theorem dX5_expose_85 : decode cX5_expose 85 = .ok (.aload_n 0, 1) := by decide +kernel
theorem dX5_expose_86 : decode cX5_expose 86 = .ok (.getfield 12, 3) := by decide +kernel
theorem dX5_expose_89 : decode cX5_expose 89 = .ok (.aload_n 0, 1) := by decide +kernel
theorem dX5_expose_90 : decode cX5_expose 90 = .ok (.getfield 21, 3) := by decide +kernel
theorem dX5_expose_93 : decode cX5_expose 93 = .ok (.iload_n 2, 1) := by decide +kernel
theorem dX5_expose_94 : decode cX5_expose 94 = .ok (.invokevirtual 137, 3) := by decide +kernel
theorem dX5_expose_97 : decode cX5_expose 97 = .ok (.invokevirtual 78, 3) := by decide +kernel
theorem dX5_expose_100 : decode cX5_expose 100 = .ok (.istore_n 3, 1) := by decide +kernel
theorem dX5_expose_101 : decode cX5_expose 101 = .ok (.iinc 4 1, 3) := by decide +kernel
theorem dX5_expose_104 : decode cX5_expose 104 = .ok (.goto (-57), 3) := by decide +kernel
theorem dX5_expose_107 : decode cX5_expose 107 = .ok (.aload_n 0, 1) := by decide +kernel
theorem dX5_expose_108 : decode cX5_expose 108 = .ok (.getfield 21, 3) := by decide +kernel
theorem dX5_expose_111 : decode cX5_expose 111 = .ok (.iload_n 1, 1) := by decide +kernel
theorem dX5_expose_112 : decode cX5_expose 112 = .ok (.invokevirtual 105, 3) := by decide +kernel
theorem dX5_expose_115 : decode cX5_expose 115 = .ok (.return_, 1) := by decide +kernel
theorem dX5_countRopes_0 : decode cX5_countRopes 0 = .ok (.iconst 0, 1) := by decide +kernel
theorem dX5_countRopes_1 : decode cX5_countRopes 1 = .ok (.istore_n 1, 1) := by decide +kernel
theorem dX5_countRopes_2 : decode cX5_countRopes 2 = .ok (.iconst 0, 1) := by decide +kernel
theorem dX5_countRopes_3 : decode cX5_countRopes 3 = .ok (.istore_n 2, 1) := by decide +kernel
theorem dX5_countRopes_4 : decode cX5_countRopes 4 = .ok (.iload_n 2, 1) := by decide +kernel
theorem dX5_countRopes_5 : decode cX5_countRopes 5 = .ok (.aload_n 0, 1) := by decide +kernel
theorem dX5_countRopes_6 : decode cX5_countRopes 6 = .ok (.getfield 12, 3) := by decide +kernel
theorem dX5_countRopes_9 : decode cX5_countRopes 9 = .ok (.getfield 62, 3) := by decide +kernel
theorem dX5_countRopes_12 : decode cX5_countRopes 12 = .ok (.if_icmp .ge 28, 3) := by decide +kernel
theorem dX5_countRopes_15 : decode cX5_countRopes 15 = .ok (.iload_n 1, 1) := by decide +kernel
theorem dX5_countRopes_16 : decode cX5_countRopes 16 = .ok (.aload_n 0, 1) := by decide +kernel
theorem dX5_countRopes_17 : decode cX5_countRopes 17 = .ok (.getfield 21, 3) := by decide +kernel
theorem dX5_countRopes_20 : decode cX5_countRopes 20 = .ok (.iload_n 2, 1) := by decide +kernel
theorem dX5_countRopes_21 : decode cX5_countRopes 21 = .ok (.invokevirtual 143, 3) := by decide +kernel
theorem dX5_countRopes_24 : decode cX5_countRopes 24 = .ok (.ifCond .ge 7, 3) := by decide +kernel
theorem dX5_countRopes_27 : decode cX5_countRopes 27 = .ok (.iconst 1, 1) := by decide +kernel
theorem dX5_countRopes_28 : decode cX5_countRopes 28 = .ok (.goto 4, 3) := by decide +kernel
theorem dX5_countRopes_31 : decode cX5_countRopes 31 = .ok (.iconst 0, 1) := by decide +kernel
theorem dX5_countRopes_32 : decode cX5_countRopes 32 = .ok (.iadd, 1) := by decide +kernel
theorem dX5_countRopes_33 : decode cX5_countRopes 33 = .ok (.istore_n 1, 1) := by decide +kernel
theorem dX5_countRopes_34 : decode cX5_countRopes 34 = .ok (.iinc 2 1, 3) := by decide +kernel
theorem dX5_countRopes_37 : decode cX5_countRopes 37 = .ok (.goto (-33), 3) := by decide +kernel
theorem dX5_countRopes_40 : decode cX5_countRopes 40 = .ok (.iload_n 1, 1) := by decide +kernel
theorem dX5_countRopes_41 : decode cX5_countRopes 41 = .ok (.ireturn, 1) := by decide +kernel
theorem dX5_countRopesUp_0 : decode cX5_countRopesUp 0 = .ok (.iconst 0, 1) := by decide +kernel
theorem dX5_countRopesUp_1 : decode cX5_countRopesUp 1 = .ok (.istore_n 2, 1) := by decide +kernel
theorem dX5_countRopesUp_2 : decode cX5_countRopesUp 2 = .ok (.iload_n 1, 1) := by decide +kernel
theorem dX5_countRopesUp_3 : decode cX5_countRopesUp 3 = .ok (.istore_n 3, 1) := by decide +kernel
theorem dX5_countRopesUp_4 : decode cX5_countRopesUp 4 = .ok (.iload_n 2, 1) := by decide +kernel
theorem dX5_countRopesUp_5 : decode cX5_countRopesUp 5 = .ok (.bipush 16, 2) := by decide +kernel
theorem dX5_countRopesUp_7 : decode cX5_countRopesUp 7 = .ok (.if_icmp .ge 29, 3) := by decide +kernel
theorem dX5_countRopesUp_10 : decode cX5_countRopesUp 10 = .ok (.iload_n 3, 1) := by decide +kernel
theorem dX5_countRopesUp_11 : decode cX5_countRopesUp 11 = .ok (.ifCond .lt 25, 3) := by decide +kernel
theorem dX5_countRopesUp_14 : decode cX5_countRopesUp 14 = .ok (.iinc 2 1, 3) := by decide +kernel
theorem dX5_countRopesUp_17 : decode cX5_countRopesUp 17 = .ok (.aload_n 0, 1) := by decide +kernel
theorem dX5_countRopesUp_18 : decode cX5_countRopesUp 18 = .ok (.getfield 12, 3) := by decide +kernel
theorem dX5_countRopesUp_21 : decode cX5_countRopesUp 21 = .ok (.aload_n 0, 1) := by decide +kernel
theorem dX5_countRopesUp_22 : decode cX5_countRopesUp 22 = .ok (.getfield 21, 3) := by decide +kernel
theorem dX5_countRopesUp_25 : decode cX5_countRopesUp 25 = .ok (.iload_n 3, 1) := by decide +kernel
theorem dX5_countRopesUp_26 : decode cX5_countRopesUp 26 = .ok (.invokevirtual 137, 3) := by decide +kernel
theorem dX5_countRopesUp_29 : decode cX5_countRopesUp 29 = .ok (.invokevirtual 78, 3) := by decide +kernel
theorem dX5_countRopesUp_32 : decode cX5_countRopesUp 32 = .ok (.istore_n 3, 1) := by decide +kernel
theorem dX5_countRopesUp_33 : decode cX5_countRopesUp 33 = .ok (.goto (-29), 3) := by decide +kernel
theorem dX5_countRopesUp_36 : decode cX5_countRopesUp 36 = .ok (.iload_n 2, 1) := by decide +kernel
theorem dX5_countRopesUp_37 : decode cX5_countRopesUp 37 = .ok (.ireturn, 1) := by decide +kernel
theorem dX5_sumByRopes_0 : decode cX5_sumByRopes 0 = .ok (.iconst 0, 1) := by decide +kernel
theorem dX5_sumByRopes_1 : decode cX5_sumByRopes 1 = .ok (.istore_n 2, 1) := by decide +kernel
theorem dX5_sumByRopes_2 : decode cX5_sumByRopes 2 = .ok (.iload_n 1, 1) := by decide +kernel
theorem dX5_sumByRopes_3 : decode cX5_sumByRopes 3 = .ok (.istore_n 3, 1) := by decide +kernel
theorem dX5_sumByRopes_4 : decode cX5_sumByRopes 4 = .ok (.iconst 0, 1) := by decide +kernel
theorem dX5_sumByRopes_5 : decode cX5_sumByRopes 5 = .ok (.istore 4, 2) := by decide +kernel
theorem dX5_sumByRopes_7 : decode cX5_sumByRopes 7 = .ok (.iload 4, 2) := by decide +kernel
theorem dX5_sumByRopes_9 : decode cX5_sumByRopes 9 = .ok (.bipush 16, 2) := by decide +kernel
theorem dX5_sumByRopes_11 : decode cX5_sumByRopes 11 = .ok (.if_icmp .ge 37, 3) := by decide +kernel
theorem dX5_sumByRopes_14 : decode cX5_sumByRopes 14 = .ok (.iload_n 3, 1) := by decide +kernel
theorem dX5_sumByRopes_15 : decode cX5_sumByRopes 15 = .ok (.ifCond .lt 33, 3) := by decide +kernel
theorem dX5_sumByRopes_18 : decode cX5_sumByRopes 18 = .ok (.iload_n 2, 1) := by decide +kernel
theorem dX5_sumByRopes_19 : decode cX5_sumByRopes 19 = .ok (.aload_n 0, 1) := by decide +kernel
theorem dX5_sumByRopes_20 : decode cX5_sumByRopes 20 = .ok (.iload_n 3, 1) := by decide +kernel
theorem dX5_sumByRopes_21 : decode cX5_sumByRopes 21 = .ok (.invokevirtual 146, 3) := by decide +kernel
theorem dX5_sumByRopes_24 : decode cX5_sumByRopes 24 = .ok (.iadd, 1) := by decide +kernel
theorem dX5_sumByRopes_25 : decode cX5_sumByRopes 25 = .ok (.istore_n 2, 1) := by decide +kernel
theorem dX5_sumByRopes_26 : decode cX5_sumByRopes 26 = .ok (.aload_n 0, 1) := by decide +kernel
theorem dX5_sumByRopes_27 : decode cX5_sumByRopes 27 = .ok (.getfield 12, 3) := by decide +kernel
theorem dX5_sumByRopes_30 : decode cX5_sumByRopes 30 = .ok (.aload_n 0, 1) := by decide +kernel
theorem dX5_sumByRopes_31 : decode cX5_sumByRopes 31 = .ok (.getfield 21, 3) := by decide +kernel
theorem dX5_sumByRopes_34 : decode cX5_sumByRopes 34 = .ok (.iload_n 3, 1) := by decide +kernel
theorem dX5_sumByRopes_35 : decode cX5_sumByRopes 35 = .ok (.invokevirtual 137, 3) := by decide +kernel
theorem dX5_sumByRopes_38 : decode cX5_sumByRopes 38 = .ok (.invokevirtual 78, 3) := by decide +kernel
theorem dX5_sumByRopes_41 : decode cX5_sumByRopes 41 = .ok (.istore_n 3, 1) := by decide +kernel
theorem dX5_sumByRopes_42 : decode cX5_sumByRopes 42 = .ok (.iinc 4 1, 3) := by decide +kernel
theorem dX5_sumByRopes_45 : decode cX5_sumByRopes 45 = .ok (.goto (-38), 3) := by decide +kernel
theorem dX5_sumByRopes_48 : decode cX5_sumByRopes 48 = .ok (.iload_n 2, 1) := by decide +kernel
theorem dX5_sumByRopes_49 : decode cX5_sumByRopes 49 = .ok (.ireturn, 1) := by decide +kernel
theorem dX5_weightDownTo_0 : decode cX5_weightDownTo 0 = .ok (.aload_n 0, 1) := by decide +kernel
theorem dX5_weightDownTo_1 : decode cX5_weightDownTo 1 = .ok (.getfield 12, 3) := by decide +kernel
theorem dX5_weightDownTo_4 : decode cX5_weightDownTo 4 = .ok (.iload_n 1, 1) := by decide +kernel
theorem dX5_weightDownTo_5 : decode cX5_weightDownTo 5 = .ok (.invokevirtual 108, 3) := by decide +kernel
theorem dX5_weightDownTo_8 : decode cX5_weightDownTo 8 = .ok (.aload_n 0, 1) := by decide +kernel
theorem dX5_weightDownTo_9 : decode cX5_weightDownTo 9 = .ok (.aload_n 0, 1) := by decide +kernel
theorem dX5_weightDownTo_10 : decode cX5_weightDownTo 10 = .ok (.getfield 21, 3) := by decide +kernel
theorem dX5_weightDownTo_13 : decode cX5_weightDownTo 13 = .ok (.iload_n 1, 1) := by decide +kernel
theorem dX5_weightDownTo_14 : decode cX5_weightDownTo 14 = .ok (.invokevirtual 149, 3) := by decide +kernel
theorem dX5_weightDownTo_17 : decode cX5_weightDownTo 17 = .ok (.invokevirtual 152, 3) := by decide +kernel
theorem dX5_weightDownTo_20 : decode cX5_weightDownTo 20 = .ok (.iadd, 1) := by decide +kernel
theorem dX5_weightDownTo_21 : decode cX5_weightDownTo 21 = .ok (.istore_n 2, 1) := by decide +kernel
theorem dX5_weightDownTo_22 : decode cX5_weightDownTo 22 = .ok (.iload_n 1, 1) := by decide +kernel
theorem dX5_weightDownTo_23 : decode cX5_weightDownTo 23 = .ok (.istore_n 3, 1) := by decide +kernel
theorem dX5_weightDownTo_24 : decode cX5_weightDownTo 24 = .ok (.aload_n 0, 1) := by decide +kernel
theorem dX5_weightDownTo_25 : decode cX5_weightDownTo 25 = .ok (.getfield 21, 3) := by decide +kernel
theorem dX5_weightDownTo_28 : decode cX5_weightDownTo 28 = .ok (.iload_n 3, 1) := by decide +kernel
theorem dX5_weightDownTo_29 : decode cX5_weightDownTo 29 = .ok (.invokevirtual 143, 3) := by decide +kernel
theorem dX5_weightDownTo_32 : decode cX5_weightDownTo 32 = .ok (.istore 4, 2) := by decide +kernel
theorem dX5_weightDownTo_34 : decode cX5_weightDownTo 34 = .ok (.iconst 0, 1) := by decide +kernel
theorem dX5_weightDownTo_35 : decode cX5_weightDownTo 35 = .ok (.istore 5, 2) := by decide +kernel
theorem dX5_weightDownTo_37 : decode cX5_weightDownTo 37 = .ok (.iload 5, 2) := by decide +kernel
theorem dX5_weightDownTo_39 : decode cX5_weightDownTo 39 = .ok (.bipush 16, 2) := by decide +kernel
theorem dX5_weightDownTo_41 : decode cX5_weightDownTo 41 = .ok (.if_icmp .ge 66, 3) := by decide +kernel
theorem dX5_weightDownTo_44 : decode cX5_weightDownTo 44 = .ok (.iload 4, 2) := by decide +kernel
theorem dX5_weightDownTo_46 : decode cX5_weightDownTo 46 = .ok (.ifCond .lt 61, 3) := by decide +kernel
theorem dX5_weightDownTo_49 : decode cX5_weightDownTo 49 = .ok (.aload_n 0, 1) := by decide +kernel
theorem dX5_weightDownTo_50 : decode cX5_weightDownTo 50 = .ok (.getfield 21, 3) := by decide +kernel
theorem dX5_weightDownTo_53 : decode cX5_weightDownTo 53 = .ok (.iload 4, 2) := by decide +kernel
theorem dX5_weightDownTo_55 : decode cX5_weightDownTo 55 = .ok (.invokevirtual 155, 3) := by decide +kernel
theorem dX5_weightDownTo_58 : decode cX5_weightDownTo 58 = .ok (.iload_n 3, 1) := by decide +kernel
theorem dX5_weightDownTo_59 : decode cX5_weightDownTo 59 = .ok (.if_icmp .ne 29, 3) := by decide +kernel
theorem dX5_weightDownTo_62 : decode cX5_weightDownTo 62 = .ok (.iload_n 2, 1) := by decide +kernel
theorem dX5_weightDownTo_63 : decode cX5_weightDownTo 63 = .ok (.aload_n 0, 1) := by decide +kernel
theorem dX5_weightDownTo_64 : decode cX5_weightDownTo 64 = .ok (.getfield 12, 3) := by decide +kernel
theorem dX5_weightDownTo_67 : decode cX5_weightDownTo 67 = .ok (.iload 4, 2) := by decide +kernel
theorem dX5_weightDownTo_69 : decode cX5_weightDownTo 69 = .ok (.invokevirtual 108, 3) := by decide +kernel
theorem dX5_weightDownTo_72 : decode cX5_weightDownTo 72 = .ok (.aload_n 0, 1) := by decide +kernel
theorem dX5_weightDownTo_73 : decode cX5_weightDownTo 73 = .ok (.aload_n 0, 1) := by decide +kernel
theorem dX5_weightDownTo_74 : decode cX5_weightDownTo 74 = .ok (.getfield 21, 3) := by decide +kernel
theorem dX5_weightDownTo_77 : decode cX5_weightDownTo 77 = .ok (.iload 4, 2) := by decide +kernel
theorem dX5_weightDownTo_79 : decode cX5_weightDownTo 79 = .ok (.invokevirtual 149, 3) := by decide +kernel
theorem dX5_weightDownTo_82 : decode cX5_weightDownTo 82 = .ok (.invokevirtual 152, 3) := by decide +kernel
theorem dX5_weightDownTo_85 : decode cX5_weightDownTo 85 = .ok (.iadd, 1) := by decide +kernel
theorem dX5_weightDownTo_86 : decode cX5_weightDownTo 86 = .ok (.iadd, 1) := by decide +kernel
theorem dX5_weightDownTo_87 : decode cX5_weightDownTo 87 = .ok (.istore_n 2, 1) := by decide +kernel
theorem dX5_weightDownTo_88 : decode cX5_weightDownTo 88 = .ok (.iload 4, 2) := by decide +kernel
theorem dX5_weightDownTo_90 : decode cX5_weightDownTo 90 = .ok (.istore_n 3, 1) := by decide +kernel
theorem dX5_weightDownTo_91 : decode cX5_weightDownTo 91 = .ok (.aload_n 0, 1) := by decide +kernel
theorem dX5_weightDownTo_92 : decode cX5_weightDownTo 92 = .ok (.getfield 21, 3) := by decide +kernel
theorem dX5_weightDownTo_95 : decode cX5_weightDownTo 95 = .ok (.iload_n 3, 1) := by decide +kernel
theorem dX5_weightDownTo_96 : decode cX5_weightDownTo 96 = .ok (.invokevirtual 143, 3) := by decide +kernel
theorem dX5_weightDownTo_99 : decode cX5_weightDownTo 99 = .ok (.istore 4, 2) := by decide +kernel
theorem dX5_weightDownTo_101 : decode cX5_weightDownTo 101 = .ok (.iinc 5 1, 3) := by decide +kernel
theorem dX5_weightDownTo_104 : decode cX5_weightDownTo 104 = .ok (.goto (-67), 3) := by decide +kernel
theorem dX5_weightDownTo_107 : decode cX5_weightDownTo 107 = .ok (.iload_n 2, 1) := by decide +kernel
theorem dX5_weightDownTo_108 : decode cX5_weightDownTo 108 = .ok (.ireturn, 1) := by decide +kernel
theorem dX5_weightBelow_0 : decode cX5_weightBelow 0 = .ok (.iconst 0, 1) := by decide +kernel
theorem dX5_weightBelow_1 : decode cX5_weightBelow 1 = .ok (.istore_n 2, 1) := by decide +kernel
theorem dX5_weightBelow_2 : decode cX5_weightBelow 2 = .ok (.iconst 0, 1) := by decide +kernel
theorem dX5_weightBelow_3 : decode cX5_weightBelow 3 = .ok (.istore_n 3, 1) := by decide +kernel
theorem dX5_weightBelow_4 : decode cX5_weightBelow 4 = .ok (.iload_n 3, 1) := by decide +kernel
theorem dX5_weightBelow_5 : decode cX5_weightBelow 5 = .ok (.aload_n 0, 1) := by decide +kernel
theorem dX5_weightBelow_6 : decode cX5_weightBelow 6 = .ok (.getfield 12, 3) := by decide +kernel
theorem dX5_weightBelow_9 : decode cX5_weightBelow 9 = .ok (.getfield 62, 3) := by decide +kernel
theorem dX5_weightBelow_12 : decode cX5_weightBelow 12 = .ok (.if_icmp .ge 36, 3) := by decide +kernel
theorem dX5_weightBelow_15 : decode cX5_weightBelow 15 = .ok (.iload_n 2, 1) := by decide +kernel
theorem dX5_weightBelow_16 : decode cX5_weightBelow 16 = .ok (.aload_n 0, 1) := by decide +kernel
theorem dX5_weightBelow_17 : decode cX5_weightBelow 17 = .ok (.getfield 21, 3) := by decide +kernel
theorem dX5_weightBelow_20 : decode cX5_weightBelow 20 = .ok (.iload_n 3, 1) := by decide +kernel
theorem dX5_weightBelow_21 : decode cX5_weightBelow 21 = .ok (.iload_n 1, 1) := by decide +kernel
theorem dX5_weightBelow_22 : decode cX5_weightBelow 22 = .ok (.invokevirtual 158, 3) := by decide +kernel
theorem dX5_weightBelow_25 : decode cX5_weightBelow 25 = .ok (.ifCond .eq 14, 3) := by decide +kernel
theorem dX5_weightBelow_28 : decode cX5_weightBelow 28 = .ok (.aload_n 0, 1) := by decide +kernel
theorem dX5_weightBelow_29 : decode cX5_weightBelow 29 = .ok (.getfield 12, 3) := by decide +kernel
theorem dX5_weightBelow_32 : decode cX5_weightBelow 32 = .ok (.iload_n 3, 1) := by decide +kernel
theorem dX5_weightBelow_33 : decode cX5_weightBelow 33 = .ok (.invokevirtual 108, 3) := by decide +kernel
theorem dX5_weightBelow_36 : decode cX5_weightBelow 36 = .ok (.goto 4, 3) := by decide +kernel
theorem dX5_weightBelow_39 : decode cX5_weightBelow 39 = .ok (.iconst 0, 1) := by decide +kernel
theorem dX5_weightBelow_40 : decode cX5_weightBelow 40 = .ok (.iadd, 1) := by decide +kernel
theorem dX5_weightBelow_41 : decode cX5_weightBelow 41 = .ok (.istore_n 2, 1) := by decide +kernel
theorem dX5_weightBelow_42 : decode cX5_weightBelow 42 = .ok (.iinc 3 1, 3) := by decide +kernel
theorem dX5_weightBelow_45 : decode cX5_weightBelow 45 = .ok (.goto (-41), 3) := by decide +kernel
theorem dX5_weightBelow_48 : decode cX5_weightBelow 48 = .ok (.iload_n 2, 1) := by decide +kernel
theorem dX5_weightBelow_49 : decode cX5_weightBelow 49 = .ok (.ireturn, 1) := by decide +kernel
theorem dX5_rootByTops_0 : decode cX5_rootByTops 0 = .ok (.aload_n 0, 1) := by decide +kernel
theorem dX5_rootByTops_1 : decode cX5_rootByTops 1 = .ok (.getfield 21, 3) := by decide +kernel
theorem dX5_rootByTops_4 : decode cX5_rootByTops 4 = .ok (.iload_n 1, 1) := by decide +kernel
theorem dX5_rootByTops_5 : decode cX5_rootByTops 5 = .ok (.invokevirtual 137, 3) := by decide +kernel
theorem dX5_rootByTops_8 : decode cX5_rootByTops 8 = .ok (.istore_n 2, 1) := by decide +kernel
theorem dX5_rootByTops_9 : decode cX5_rootByTops 9 = .ok (.iconst 0, 1) := by decide +kernel
theorem dX5_rootByTops_10 : decode cX5_rootByTops 10 = .ok (.istore_n 3, 1) := by decide +kernel
theorem dX5_rootByTops_11 : decode cX5_rootByTops 11 = .ok (.iload_n 3, 1) := by decide +kernel
theorem dX5_rootByTops_12 : decode cX5_rootByTops 12 = .ok (.bipush 16, 2) := by decide +kernel
theorem dX5_rootByTops_14 : decode cX5_rootByTops 14 = .ok (.if_icmp .ge 36, 3) := by decide +kernel
theorem dX5_rootByTops_17 : decode cX5_rootByTops 17 = .ok (.aload_n 0, 1) := by decide +kernel
theorem dX5_rootByTops_18 : decode cX5_rootByTops 18 = .ok (.getfield 12, 3) := by decide +kernel
theorem dX5_rootByTops_21 : decode cX5_rootByTops 21 = .ok (.iload_n 2, 1) := by decide +kernel
theorem dX5_rootByTops_22 : decode cX5_rootByTops 22 = .ok (.invokevirtual 78, 3) := by decide +kernel
theorem dX5_rootByTops_25 : decode cX5_rootByTops 25 = .ok (.ifCond .lt 25, 3) := by decide +kernel
theorem dX5_rootByTops_28 : decode cX5_rootByTops 28 = .ok (.aload_n 0, 1) := by decide +kernel
theorem dX5_rootByTops_29 : decode cX5_rootByTops 29 = .ok (.getfield 21, 3) := by decide +kernel
theorem dX5_rootByTops_32 : decode cX5_rootByTops 32 = .ok (.aload_n 0, 1) := by decide +kernel
theorem dX5_rootByTops_33 : decode cX5_rootByTops 33 = .ok (.getfield 12, 3) := by decide +kernel
theorem dX5_rootByTops_36 : decode cX5_rootByTops 36 = .ok (.iload_n 2, 1) := by decide +kernel
theorem dX5_rootByTops_37 : decode cX5_rootByTops 37 = .ok (.invokevirtual 78, 3) := by decide +kernel
theorem dX5_rootByTops_40 : decode cX5_rootByTops 40 = .ok (.invokevirtual 137, 3) := by decide +kernel
theorem dX5_rootByTops_43 : decode cX5_rootByTops 43 = .ok (.istore_n 2, 1) := by decide +kernel
theorem dX5_rootByTops_44 : decode cX5_rootByTops 44 = .ok (.iinc 3 1, 3) := by decide +kernel
theorem dX5_rootByTops_47 : decode cX5_rootByTops 47 = .ok (.goto (-36), 3) := by decide +kernel
theorem dX5_rootByTops_50 : decode cX5_rootByTops 50 = .ok (.iload_n 2, 1) := by decide +kernel
theorem dX5_rootByTops_51 : decode cX5_rootByTops 51 = .ok (.ireturn, 1) := by decide +kernel
theorem dX5_jointByRopes_0 : decode cX5_jointByRopes 0 = .ok (.iload_n 1, 1) := by decide +kernel
theorem dX5_jointByRopes_1 : decode cX5_jointByRopes 1 = .ok (.istore_n 3, 1) := by decide +kernel
theorem dX5_jointByRopes_2 : decode cX5_jointByRopes 2 = .ok (.iload_n 2, 1) := by decide +kernel
theorem dX5_jointByRopes_3 : decode cX5_jointByRopes 3 = .ok (.istore 4, 2) := by decide +kernel
theorem dX5_jointByRopes_5 : decode cX5_jointByRopes 5 = .ok (.iconst 0, 1) := by decide +kernel
theorem dX5_jointByRopes_6 : decode cX5_jointByRopes 6 = .ok (.istore 5, 2) := by decide +kernel
theorem dX5_jointByRopes_8 : decode cX5_jointByRopes 8 = .ok (.iload 5, 2) := by decide +kernel
theorem dX5_jointByRopes_10 : decode cX5_jointByRopes 10 = .ok (.bipush 16, 2) := by decide +kernel
theorem dX5_jointByRopes_12 : decode cX5_jointByRopes 12 = .ok (.if_icmp .ge 118, 3) := by decide +kernel
theorem dX5_jointByRopes_15 : decode cX5_jointByRopes 15 = .ok (.iload_n 3, 1) := by decide +kernel
theorem dX5_jointByRopes_16 : decode cX5_jointByRopes 16 = .ok (.ifCond .lt 114, 3) := by decide +kernel
theorem dX5_jointByRopes_19 : decode cX5_jointByRopes 19 = .ok (.iload 4, 2) := by decide +kernel
theorem dX5_jointByRopes_21 : decode cX5_jointByRopes 21 = .ok (.ifCond .lt 109, 3) := by decide +kernel
theorem dX5_jointByRopes_24 : decode cX5_jointByRopes 24 = .ok (.aload_n 0, 1) := by decide +kernel
theorem dX5_jointByRopes_25 : decode cX5_jointByRopes 25 = .ok (.getfield 21, 3) := by decide +kernel
theorem dX5_jointByRopes_28 : decode cX5_jointByRopes 28 = .ok (.iload_n 3, 1) := by decide +kernel
theorem dX5_jointByRopes_29 : decode cX5_jointByRopes 29 = .ok (.invokevirtual 137, 3) := by decide +kernel
theorem dX5_jointByRopes_32 : decode cX5_jointByRopes 32 = .ok (.istore 6, 2) := by decide +kernel
theorem dX5_jointByRopes_34 : decode cX5_jointByRopes 34 = .ok (.aload_n 0, 1) := by decide +kernel
theorem dX5_jointByRopes_35 : decode cX5_jointByRopes 35 = .ok (.getfield 21, 3) := by decide +kernel
theorem dX5_jointByRopes_38 : decode cX5_jointByRopes 38 = .ok (.iload 4, 2) := by decide +kernel
theorem dX5_jointByRopes_40 : decode cX5_jointByRopes 40 = .ok (.invokevirtual 137, 3) := by decide +kernel
theorem dX5_jointByRopes_43 : decode cX5_jointByRopes 43 = .ok (.istore 7, 2) := by decide +kernel
theorem dX5_jointByRopes_45 : decode cX5_jointByRopes 45 = .ok (.iload 6, 2) := by decide +kernel
theorem dX5_jointByRopes_47 : decode cX5_jointByRopes 47 = .ok (.iload 7, 2) := by decide +kernel
theorem dX5_jointByRopes_49 : decode cX5_jointByRopes 49 = .ok (.if_icmp .ne 30, 3) := by decide +kernel
theorem dX5_jointByRopes_52 : decode cX5_jointByRopes 52 = .ok (.aload_n 0, 1) := by decide +kernel
theorem dX5_jointByRopes_53 : decode cX5_jointByRopes 53 = .ok (.getfield 21, 3) := by decide +kernel
theorem dX5_jointByRopes_56 : decode cX5_jointByRopes 56 = .ok (.iload_n 3, 1) := by decide +kernel
theorem dX5_jointByRopes_57 : decode cX5_jointByRopes 57 = .ok (.invokevirtual 162, 3) := by decide +kernel
theorem dX5_jointByRopes_60 : decode cX5_jointByRopes 60 = .ok (.aload_n 0, 1) := by decide +kernel
theorem dX5_jointByRopes_61 : decode cX5_jointByRopes 61 = .ok (.getfield 21, 3) := by decide +kernel
theorem dX5_jointByRopes_64 : decode cX5_jointByRopes 64 = .ok (.iload 4, 2) := by decide +kernel
theorem dX5_jointByRopes_66 : decode cX5_jointByRopes 66 = .ok (.invokevirtual 162, 3) := by decide +kernel
theorem dX5_jointByRopes_69 : decode cX5_jointByRopes 69 = .ok (.if_icmp .gt 7, 3) := by decide +kernel
theorem dX5_jointByRopes_72 : decode cX5_jointByRopes 72 = .ok (.iload_n 3, 1) := by decide +kernel
theorem dX5_jointByRopes_73 : decode cX5_jointByRopes 73 = .ok (.goto 5, 3) := by decide +kernel
theorem dX5_jointByRopes_76 : decode cX5_jointByRopes 76 = .ok (.iload 4, 2) := by decide +kernel
theorem dX5_jointByRopes_78 : decode cX5_jointByRopes 78 = .ok (.ireturn, 1) := by decide +kernel
theorem dX5_jointByRopes_79 : decode cX5_jointByRopes 79 = .ok (.aload_n 0, 1) := by decide +kernel
theorem dX5_jointByRopes_80 : decode cX5_jointByRopes 80 = .ok (.getfield 12, 3) := by decide +kernel
theorem dX5_jointByRopes_83 : decode cX5_jointByRopes 83 = .ok (.iload 6, 2) := by decide +kernel
theorem dX5_jointByRopes_85 : decode cX5_jointByRopes 85 = .ok (.invokevirtual 96, 3) := by decide +kernel
theorem dX5_jointByRopes_88 : decode cX5_jointByRopes 88 = .ok (.aload_n 0, 1) := by decide +kernel
theorem dX5_jointByRopes_89 : decode cX5_jointByRopes 89 = .ok (.getfield 12, 3) := by decide +kernel
theorem dX5_jointByRopes_92 : decode cX5_jointByRopes 92 = .ok (.iload 7, 2) := by decide +kernel
theorem dX5_jointByRopes_94 : decode cX5_jointByRopes 94 = .ok (.invokevirtual 96, 3) := by decide +kernel
theorem dX5_jointByRopes_97 : decode cX5_jointByRopes 97 = .ok (.if_icmp .lt 16, 3) := by decide +kernel
theorem dX5_jointByRopes_100 : decode cX5_jointByRopes 100 = .ok (.aload_n 0, 1) := by decide +kernel
theorem dX5_jointByRopes_101 : decode cX5_jointByRopes 101 = .ok (.getfield 12, 3) := by decide +kernel
theorem dX5_jointByRopes_104 : decode cX5_jointByRopes 104 = .ok (.iload 6, 2) := by decide +kernel
theorem dX5_jointByRopes_106 : decode cX5_jointByRopes 106 = .ok (.invokevirtual 78, 3) := by decide +kernel
theorem dX5_jointByRopes_109 : decode cX5_jointByRopes 109 = .ok (.istore_n 3, 1) := by decide +kernel
theorem dX5_jointByRopes_110 : decode cX5_jointByRopes 110 = .ok (.goto 14, 3) := by decide +kernel
theorem dX5_jointByRopes_113 : decode cX5_jointByRopes 113 = .ok (.aload_n 0, 1) := by decide +kernel
theorem dX5_jointByRopes_114 : decode cX5_jointByRopes 114 = .ok (.getfield 12, 3) := by decide +kernel
theorem dX5_jointByRopes_117 : decode cX5_jointByRopes 117 = .ok (.iload 7, 2) := by decide +kernel
theorem dX5_jointByRopes_119 : decode cX5_jointByRopes 119 = .ok (.invokevirtual 78, 3) := by decide +kernel
theorem dX5_jointByRopes_122 : decode cX5_jointByRopes 122 = .ok (.istore 4, 2) := by decide +kernel
theorem dX5_jointByRopes_124 : decode cX5_jointByRopes 124 = .ok (.iinc 5 1, 3) := by decide +kernel
theorem dX5_jointByRopes_127 : decode cX5_jointByRopes 127 = .ok (.goto (-119), 3) := by decide +kernel
theorem dX5_jointByRopes_130 : decode cX5_jointByRopes 130 = .ok (.bipush (-4), 2) := by decide +kernel
theorem dX5_jointByRopes_132 : decode cX5_jointByRopes 132 = .ok (.ireturn, 1) := by decide +kernel
theorem dX5_doWaysAgree_0 : decode cX5_doWaysAgree 0 = .ok (.iconst 0, 1) := by decide +kernel
theorem dX5_doWaysAgree_1 : decode cX5_doWaysAgree 1 = .ok (.istore_n 1, 1) := by decide +kernel
theorem dX5_doWaysAgree_2 : decode cX5_doWaysAgree 2 = .ok (.iload_n 1, 1) := by decide +kernel
theorem dX5_doWaysAgree_3 : decode cX5_doWaysAgree 3 = .ok (.aload_n 0, 1) := by decide +kernel
theorem dX5_doWaysAgree_4 : decode cX5_doWaysAgree 4 = .ok (.getfield 12, 3) := by decide +kernel
theorem dX5_doWaysAgree_7 : decode cX5_doWaysAgree 7 = .ok (.getfield 62, 3) := by decide +kernel
theorem dX5_doWaysAgree_10 : decode cX5_doWaysAgree 10 = .ok (.if_icmp .ge 82, 3) := by decide +kernel
theorem dX5_doWaysAgree_13 : decode cX5_doWaysAgree 13 = .ok (.aload_n 0, 1) := by decide +kernel
theorem dX5_doWaysAgree_14 : decode cX5_doWaysAgree 14 = .ok (.iload_n 1, 1) := by decide +kernel
theorem dX5_doWaysAgree_15 : decode cX5_doWaysAgree 15 = .ok (.invokevirtual 165, 3) := by decide +kernel
theorem dX5_doWaysAgree_18 : decode cX5_doWaysAgree 18 = .ok (.aload_n 0, 1) := by decide +kernel
theorem dX5_doWaysAgree_19 : decode cX5_doWaysAgree 19 = .ok (.getfield 12, 3) := by decide +kernel
theorem dX5_doWaysAgree_22 : decode cX5_doWaysAgree 22 = .ok (.iload_n 1, 1) := by decide +kernel
theorem dX5_doWaysAgree_23 : decode cX5_doWaysAgree 23 = .ok (.invokevirtual 102, 3) := by decide +kernel
theorem dX5_doWaysAgree_26 : decode cX5_doWaysAgree 26 = .ok (.if_icmp .ne 19, 3) := by decide +kernel
theorem dX5_doWaysAgree_29 : decode cX5_doWaysAgree 29 = .ok (.aload_n 0, 1) := by decide +kernel
theorem dX5_doWaysAgree_30 : decode cX5_doWaysAgree 30 = .ok (.iload_n 1, 1) := by decide +kernel
theorem dX5_doWaysAgree_31 : decode cX5_doWaysAgree 31 = .ok (.invokevirtual 168, 3) := by decide +kernel
theorem dX5_doWaysAgree_34 : decode cX5_doWaysAgree 34 = .ok (.aload_n 0, 1) := by decide +kernel
theorem dX5_doWaysAgree_35 : decode cX5_doWaysAgree 35 = .ok (.getfield 12, 3) := by decide +kernel
theorem dX5_doWaysAgree_38 : decode cX5_doWaysAgree 38 = .ok (.iload_n 1, 1) := by decide +kernel
theorem dX5_doWaysAgree_39 : decode cX5_doWaysAgree 39 = .ok (.invokevirtual 81, 3) := by decide +kernel
theorem dX5_doWaysAgree_42 : decode cX5_doWaysAgree 42 = .ok (.if_icmp .eq 5, 3) := by decide +kernel
theorem dX5_doWaysAgree_45 : decode cX5_doWaysAgree 45 = .ok (.iconst 0, 1) := by decide +kernel
theorem dX5_doWaysAgree_46 : decode cX5_doWaysAgree 46 = .ok (.ireturn, 1) := by decide +kernel
theorem dX5_doWaysAgree_47 : decode cX5_doWaysAgree 47 = .ok (.iconst 0, 1) := by decide +kernel
theorem dX5_doWaysAgree_48 : decode cX5_doWaysAgree 48 = .ok (.istore_n 2, 1) := by decide +kernel
theorem dX5_doWaysAgree_49 : decode cX5_doWaysAgree 49 = .ok (.iload_n 2, 1) := by decide +kernel
theorem dX5_doWaysAgree_50 : decode cX5_doWaysAgree 50 = .ok (.aload_n 0, 1) := by decide +kernel
theorem dX5_doWaysAgree_51 : decode cX5_doWaysAgree 51 = .ok (.getfield 12, 3) := by decide +kernel
theorem dX5_doWaysAgree_54 : decode cX5_doWaysAgree 54 = .ok (.getfield 62, 3) := by decide +kernel
theorem dX5_doWaysAgree_57 : decode cX5_doWaysAgree 57 = .ok (.if_icmp .ge 29, 3) := by decide +kernel
theorem dX5_doWaysAgree_60 : decode cX5_doWaysAgree 60 = .ok (.aload_n 0, 1) := by decide +kernel
theorem dX5_doWaysAgree_61 : decode cX5_doWaysAgree 61 = .ok (.iload_n 1, 1) := by decide +kernel
theorem dX5_doWaysAgree_62 : decode cX5_doWaysAgree 62 = .ok (.iload_n 2, 1) := by decide +kernel
theorem dX5_doWaysAgree_63 : decode cX5_doWaysAgree 63 = .ok (.invokevirtual 171, 3) := by decide +kernel
theorem dX5_doWaysAgree_66 : decode cX5_doWaysAgree 66 = .ok (.aload_n 0, 1) := by decide +kernel
theorem dX5_doWaysAgree_67 : decode cX5_doWaysAgree 67 = .ok (.getfield 12, 3) := by decide +kernel
theorem dX5_doWaysAgree_70 : decode cX5_doWaysAgree 70 = .ok (.iload_n 1, 1) := by decide +kernel
theorem dX5_doWaysAgree_71 : decode cX5_doWaysAgree 71 = .ok (.iload_n 2, 1) := by decide +kernel
theorem dX5_doWaysAgree_72 : decode cX5_doWaysAgree 72 = .ok (.invokevirtual 174, 3) := by decide +kernel
theorem dX5_doWaysAgree_75 : decode cX5_doWaysAgree 75 = .ok (.if_icmp .eq 5, 3) := by decide +kernel
theorem dX5_doWaysAgree_78 : decode cX5_doWaysAgree 78 = .ok (.iconst 0, 1) := by decide +kernel
theorem dX5_doWaysAgree_79 : decode cX5_doWaysAgree 79 = .ok (.ireturn, 1) := by decide +kernel
theorem dX5_doWaysAgree_80 : decode cX5_doWaysAgree 80 = .ok (.iinc 2 1, 3) := by decide +kernel
theorem dX5_doWaysAgree_83 : decode cX5_doWaysAgree 83 = .ok (.goto (-34), 3) := by decide +kernel
theorem dX5_doWaysAgree_86 : decode cX5_doWaysAgree 86 = .ok (.iinc 1 1, 3) := by decide +kernel
theorem dX5_doWaysAgree_89 : decode cX5_doWaysAgree 89 = .ok (.goto (-87), 3) := by decide +kernel
theorem dX5_doWaysAgree_92 : decode cX5_doWaysAgree 92 = .ok (.iconst 1, 1) := by decide +kernel
theorem dX5_doWaysAgree_93 : decode cX5_doWaysAgree 93 = .ok (.ireturn, 1) := by decide +kernel
theorem dX5_areRopesWell_0 : decode cX5_areRopesWell 0 = .ok (.iconst 0, 1) := by decide +kernel
theorem dX5_areRopesWell_1 : decode cX5_areRopesWell 1 = .ok (.istore_n 1, 1) := by decide +kernel
theorem dX5_areRopesWell_2 : decode cX5_areRopesWell 2 = .ok (.iload_n 1, 1) := by decide +kernel
theorem dX5_areRopesWell_3 : decode cX5_areRopesWell 3 = .ok (.aload_n 0, 1) := by decide +kernel
theorem dX5_areRopesWell_4 : decode cX5_areRopesWell 4 = .ok (.getfield 12, 3) := by decide +kernel
theorem dX5_areRopesWell_7 : decode cX5_areRopesWell 7 = .ok (.getfield 62, 3) := by decide +kernel
theorem dX5_areRopesWell_10 : decode cX5_areRopesWell 10 = .ok (.if_icmp .ge 47, 3) := by decide +kernel
theorem dX5_areRopesWell_13 : decode cX5_areRopesWell 13 = .ok (.aload_n 0, 1) := by decide +kernel
theorem dX5_areRopesWell_14 : decode cX5_areRopesWell 14 = .ok (.getfield 21, 3) := by decide +kernel
theorem dX5_areRopesWell_17 : decode cX5_areRopesWell 17 = .ok (.iload_n 1, 1) := by decide +kernel
theorem dX5_areRopesWell_18 : decode cX5_areRopesWell 18 = .ok (.invokevirtual 177, 3) := by decide +kernel
theorem dX5_areRopesWell_21 : decode cX5_areRopesWell 21 = .ok (.istore_n 2, 1) := by decide +kernel
theorem dX5_areRopesWell_22 : decode cX5_areRopesWell 22 = .ok (.iload_n 2, 1) := by decide +kernel
theorem dX5_areRopesWell_23 : decode cX5_areRopesWell 23 = .ok (.ifCond .lt 17, 3) := by decide +kernel
theorem dX5_areRopesWell_26 : decode cX5_areRopesWell 26 = .ok (.aload_n 0, 1) := by decide +kernel
theorem dX5_areRopesWell_27 : decode cX5_areRopesWell 27 = .ok (.getfield 12, 3) := by decide +kernel
theorem dX5_areRopesWell_30 : decode cX5_areRopesWell 30 = .ok (.iload_n 1, 1) := by decide +kernel
theorem dX5_areRopesWell_31 : decode cX5_areRopesWell 31 = .ok (.invokevirtual 78, 3) := by decide +kernel
theorem dX5_areRopesWell_34 : decode cX5_areRopesWell 34 = .ok (.iload_n 2, 1) := by decide +kernel
theorem dX5_areRopesWell_35 : decode cX5_areRopesWell 35 = .ok (.if_icmp .eq 5, 3) := by decide +kernel
theorem dX5_areRopesWell_38 : decode cX5_areRopesWell 38 = .ok (.iconst 0, 1) := by decide +kernel
theorem dX5_areRopesWell_39 : decode cX5_areRopesWell 39 = .ok (.ireturn, 1) := by decide +kernel
theorem dX5_areRopesWell_40 : decode cX5_areRopesWell 40 = .ok (.aload_n 0, 1) := by decide +kernel
theorem dX5_areRopesWell_41 : decode cX5_areRopesWell 41 = .ok (.iload_n 1, 1) := by decide +kernel
theorem dX5_areRopesWell_42 : decode cX5_areRopesWell 42 = .ok (.invokevirtual 180, 3) := by decide +kernel
theorem dX5_areRopesWell_45 : decode cX5_areRopesWell 45 = .ok (.iconst 1, 1) := by decide +kernel
theorem dX5_areRopesWell_46 : decode cX5_areRopesWell 46 = .ok (.if_icmp .eq 5, 3) := by decide +kernel
theorem dX5_areRopesWell_49 : decode cX5_areRopesWell 49 = .ok (.iconst 0, 1) := by decide +kernel
theorem dX5_areRopesWell_50 : decode cX5_areRopesWell 50 = .ok (.ireturn, 1) := by decide +kernel
theorem dX5_areRopesWell_51 : decode cX5_areRopesWell 51 = .ok (.iinc 1 1, 3) := by decide +kernel
theorem dX5_areRopesWell_54 : decode cX5_areRopesWell 54 = .ok (.goto (-52), 3) := by decide +kernel
theorem dX5_areRopesWell_57 : decode cX5_areRopesWell 57 = .ok (.iconst 1, 1) := by decide +kernel
theorem dX5_areRopesWell_58 : decode cX5_areRopesWell 58 = .ok (.ireturn, 1) := by decide +kernel
theorem dX5_timesOnRopes_0 : decode cX5_timesOnRopes 0 = .ok (.iconst 0, 1) := by decide +kernel
theorem dX5_timesOnRopes_1 : decode cX5_timesOnRopes 1 = .ok (.istore_n 2, 1) := by decide +kernel
theorem dX5_timesOnRopes_2 : decode cX5_timesOnRopes 2 = .ok (.iconst 0, 1) := by decide +kernel
theorem dX5_timesOnRopes_3 : decode cX5_timesOnRopes 3 = .ok (.istore_n 3, 1) := by decide +kernel
theorem dX5_timesOnRopes_4 : decode cX5_timesOnRopes 4 = .ok (.iload_n 3, 1) := by decide +kernel
theorem dX5_timesOnRopes_5 : decode cX5_timesOnRopes 5 = .ok (.aload_n 0, 1) := by decide +kernel
theorem dX5_timesOnRopes_6 : decode cX5_timesOnRopes 6 = .ok (.getfield 12, 3) := by decide +kernel
theorem dX5_timesOnRopes_9 : decode cX5_timesOnRopes 9 = .ok (.getfield 62, 3) := by decide +kernel
theorem dX5_timesOnRopes_12 : decode cX5_timesOnRopes 12 = .ok (.if_icmp .ge 74, 3) := by decide +kernel
theorem dX5_timesOnRopes_15 : decode cX5_timesOnRopes 15 = .ok (.aload_n 0, 1) := by decide +kernel
theorem dX5_timesOnRopes_16 : decode cX5_timesOnRopes 16 = .ok (.getfield 21, 3) := by decide +kernel
theorem dX5_timesOnRopes_19 : decode cX5_timesOnRopes 19 = .ok (.iload_n 3, 1) := by decide +kernel
theorem dX5_timesOnRopes_20 : decode cX5_timesOnRopes 20 = .ok (.invokevirtual 137, 3) := by decide +kernel
theorem dX5_timesOnRopes_23 : decode cX5_timesOnRopes 23 = .ok (.iload_n 3, 1) := by decide +kernel
theorem dX5_timesOnRopes_24 : decode cX5_timesOnRopes 24 = .ok (.if_icmp .ne 7, 3) := by decide +kernel
theorem dX5_timesOnRopes_27 : decode cX5_timesOnRopes 27 = .ok (.iload_n 3, 1) := by decide +kernel
theorem dX5_timesOnRopes_28 : decode cX5_timesOnRopes 28 = .ok (.goto 4, 3) := by decide +kernel
theorem dX5_timesOnRopes_31 : decode cX5_timesOnRopes 31 = .ok (.iconst (-1), 1) := by decide +kernel
theorem dX5_timesOnRopes_32 : decode cX5_timesOnRopes 32 = .ok (.istore 4, 2) := by decide +kernel
theorem dX5_timesOnRopes_34 : decode cX5_timesOnRopes 34 = .ok (.iconst 0, 1) := by decide +kernel
theorem dX5_timesOnRopes_35 : decode cX5_timesOnRopes 35 = .ok (.istore 5, 2) := by decide +kernel
theorem dX5_timesOnRopes_37 : decode cX5_timesOnRopes 37 = .ok (.iload 5, 2) := by decide +kernel
theorem dX5_timesOnRopes_39 : decode cX5_timesOnRopes 39 = .ok (.bipush 16, 2) := by decide +kernel
theorem dX5_timesOnRopes_41 : decode cX5_timesOnRopes 41 = .ok (.if_icmp .ge 39, 3) := by decide +kernel
theorem dX5_timesOnRopes_44 : decode cX5_timesOnRopes 44 = .ok (.iload 4, 2) := by decide +kernel
theorem dX5_timesOnRopes_46 : decode cX5_timesOnRopes 46 = .ok (.ifCond .lt 34, 3) := by decide +kernel
theorem dX5_timesOnRopes_49 : decode cX5_timesOnRopes 49 = .ok (.iload_n 2, 1) := by decide +kernel
theorem dX5_timesOnRopes_50 : decode cX5_timesOnRopes 50 = .ok (.iload 4, 2) := by decide +kernel
theorem dX5_timesOnRopes_52 : decode cX5_timesOnRopes 52 = .ok (.iload_n 1, 1) := by decide +kernel
theorem dX5_timesOnRopes_53 : decode cX5_timesOnRopes 53 = .ok (.if_icmp .ne 7, 3) := by decide +kernel
theorem dX5_timesOnRopes_56 : decode cX5_timesOnRopes 56 = .ok (.iconst 1, 1) := by decide +kernel
theorem dX5_timesOnRopes_57 : decode cX5_timesOnRopes 57 = .ok (.goto 4, 3) := by decide +kernel
theorem dX5_timesOnRopes_60 : decode cX5_timesOnRopes 60 = .ok (.iconst 0, 1) := by decide +kernel
theorem dX5_timesOnRopes_61 : decode cX5_timesOnRopes 61 = .ok (.iadd, 1) := by decide +kernel
theorem dX5_timesOnRopes_62 : decode cX5_timesOnRopes 62 = .ok (.istore_n 2, 1) := by decide +kernel
theorem dX5_timesOnRopes_63 : decode cX5_timesOnRopes 63 = .ok (.aload_n 0, 1) := by decide +kernel
theorem dX5_timesOnRopes_64 : decode cX5_timesOnRopes 64 = .ok (.getfield 21, 3) := by decide +kernel
theorem dX5_timesOnRopes_67 : decode cX5_timesOnRopes 67 = .ok (.iload 4, 2) := by decide +kernel
theorem dX5_timesOnRopes_69 : decode cX5_timesOnRopes 69 = .ok (.invokevirtual 183, 3) := by decide +kernel
theorem dX5_timesOnRopes_72 : decode cX5_timesOnRopes 72 = .ok (.istore 4, 2) := by decide +kernel
theorem dX5_timesOnRopes_74 : decode cX5_timesOnRopes 74 = .ok (.iinc 5 1, 3) := by decide +kernel
theorem dX5_timesOnRopes_77 : decode cX5_timesOnRopes 77 = .ok (.goto (-40), 3) := by decide +kernel
theorem dX5_timesOnRopes_80 : decode cX5_timesOnRopes 80 = .ok (.iinc 3 1, 3) := by decide +kernel
theorem dX5_timesOnRopes_83 : decode cX5_timesOnRopes 83 = .ok (.goto (-79), 3) := by decide +kernel
theorem dX5_timesOnRopes_86 : decode cX5_timesOnRopes 86 = .ok (.iload_n 2, 1) := by decide +kernel
theorem dX5_timesOnRopes_87 : decode cX5_timesOnRopes 87 = .ok (.ireturn, 1) := by decide +kernel
theorem dX5_isWeight_0 : decode cX5_isWeight 0 = .ok (.iload_n 0, 1) := by decide +kernel
theorem dX5_isWeight_1 : decode cX5_isWeight 1 = .ok (.ifCond .lt 13, 3) := by decide +kernel
theorem dX5_isWeight_4 : decode cX5_isWeight 4 = .ok (.iload_n 0, 1) := by decide +kernel
theorem dX5_isWeight_5 : decode cX5_isWeight 5 = .ok (.bipush 99, 2) := by decide +kernel
theorem dX5_isWeight_7 : decode cX5_isWeight 7 = .ok (.if_icmp .gt 7, 3) := by decide +kernel
theorem dX5_isWeight_10 : decode cX5_isWeight 10 = .ok (.iconst 1, 1) := by decide +kernel
theorem dX5_isWeight_11 : decode cX5_isWeight 11 = .ok (.goto 4, 3) := by decide +kernel
theorem dX5_isWeight_14 : decode cX5_isWeight 14 = .ok (.iconst 0, 1) := by decide +kernel
theorem dX5_isWeight_15 : decode cX5_isWeight 15 = .ok (.ireturn, 1) := by decide +kernel
theorem dX6_init_0 : decode cX6_init 0 = .ok (.aload_n 0, 1) := by decide +kernel
theorem dX6_init_1 : decode cX6_init 1 = .ok (.invokespecial 3, 3) := by decide +kernel
theorem dX6_init_4 : decode cX6_init 4 = .ok (.return_, 1) := by decide +kernel
theorem dX6_refuse_0 : decode cX6_refuse 0 = .ok (.aload_n 0, 1) := by decide +kernel
theorem dX6_refuse_1 : decode cX6_refuse 1 = .ok (.iload_n 1, 1) := by decide +kernel
theorem dX6_refuse_2 : decode cX6_refuse 2 = .ok (.putfield 9, 3) := by decide +kernel
theorem dX6_refuse_5 : decode cX6_refuse 5 = .ok (.aload_n 0, 1) := by decide +kernel
theorem dX6_refuse_6 : decode cX6_refuse 6 = .ok (.iload_n 2, 1) := by decide +kernel
theorem dX6_refuse_7 : decode cX6_refuse 7 = .ok (.putfield 15, 3) := by decide +kernel
theorem dX6_refuse_10 : decode cX6_refuse 10 = .ok (.aload_n 0, 1) := by decide +kernel
theorem dX6_refuse_11 : decode cX6_refuse 11 = .ok (.iconst 0, 1) := by decide +kernel
theorem dX6_refuse_12 : decode cX6_refuse 12 = .ok (.putfield 18, 3) := by decide +kernel
theorem dX6_refuse_15 : decode cX6_refuse 15 = .ok (.aload_n 0, 1) := by decide +kernel
theorem dX6_refuse_16 : decode cX6_refuse 16 = .ok (.iconst 0, 1) := by decide +kernel
theorem dX6_refuse_17 : decode cX6_refuse 17 = .ok (.putfield 21, 3) := by decide +kernel
theorem dX6_refuse_20 : decode cX6_refuse 20 = .ok (.bipush (-3), 2) := by decide +kernel
theorem dX6_refuse_22 : decode cX6_refuse 22 = .ok (.ireturn, 1) := by decide +kernel
theorem dX6_refuseBefore_0 : decode cX6_refuseBefore 0 = .ok (.aload_n 0, 1) := by decide +kernel
theorem dX6_refuseBefore_1 : decode cX6_refuseBefore 1 = .ok (.aload_n 0, 1) := by decide +kernel
theorem dX6_refuseBefore_2 : decode cX6_refuseBefore 2 = .ok (.getfield 9, 3) := by decide +kernel
theorem dX6_refuseBefore_5 : decode cX6_refuseBefore 5 = .ok (.putfield 18, 3) := by decide +kernel
theorem dX6_refuseBefore_8 : decode cX6_refuseBefore 8 = .ok (.aload_n 0, 1) := by decide +kernel
theorem dX6_refuseBefore_9 : decode cX6_refuseBefore 9 = .ok (.aload_n 0, 1) := by decide +kernel
theorem dX6_refuseBefore_10 : decode cX6_refuseBefore 10 = .ok (.getfield 15, 3) := by decide +kernel
theorem dX6_refuseBefore_13 : decode cX6_refuseBefore 13 = .ok (.putfield 21, 3) := by decide +kernel
theorem dX6_refuseBefore_16 : decode cX6_refuseBefore 16 = .ok (.aload_n 0, 1) := by decide +kernel
theorem dX6_refuseBefore_17 : decode cX6_refuseBefore 17 = .ok (.iload_n 1, 1) := by decide +kernel
theorem dX6_refuseBefore_18 : decode cX6_refuseBefore 18 = .ok (.putfield 9, 3) := by decide +kernel
theorem dX6_refuseBefore_21 : decode cX6_refuseBefore 21 = .ok (.aload_n 0, 1) := by decide +kernel
theorem dX6_refuseBefore_22 : decode cX6_refuseBefore 22 = .ok (.iload_n 2, 1) := by decide +kernel
theorem dX6_refuseBefore_23 : decode cX6_refuseBefore 23 = .ok (.putfield 15, 3) := by decide +kernel
theorem dX6_refuseBefore_26 : decode cX6_refuseBefore 26 = .ok (.bipush (-3), 2) := by decide +kernel
theorem dX6_refuseBefore_28 : decode cX6_refuseBefore 28 = .ok (.ireturn, 1) := by decide +kernel
theorem dX6_tell_0 : decode cX6_tell 0 = .ok (.iload_n 1, 1) := by decide +kernel
theorem dX6_tell_1 : decode cX6_tell 1 = .ok (.ifCond .lt 8, 3) := by decide +kernel
theorem dX6_tell_4 : decode cX6_tell 4 = .ok (.iload_n 1, 1) := by decide +kernel
theorem dX6_tell_5 : decode cX6_tell 5 = .ok (.iconst 1, 1) := by decide +kernel
theorem dX6_tell_6 : decode cX6_tell 6 = .ok (.if_icmp .le 6, 3) := by decide +kernel
theorem dX6_tell_9 : decode cX6_tell 9 = .ok (.bipush (-2), 2) := by decide +kernel
theorem dX6_tell_11 : decode cX6_tell 11 = .ok (.ireturn, 1) := by decide +kernel
theorem dX6_tell_12 : decode cX6_tell 12 = .ok (.iload_n 1, 1) := by decide +kernel
theorem dX6_tell_13 : decode cX6_tell 13 = .ok (.ifCond .ne 10, 3) := by decide +kernel
theorem dX6_tell_16 : decode cX6_tell 16 = .ok (.aload_n 0, 1) := by decide +kernel
theorem dX6_tell_17 : decode cX6_tell 17 = .ok (.getfield 9, 3) := by decide +kernel
theorem dX6_tell_20 : decode cX6_tell 20 = .ok (.goto 7, 3) := by decide +kernel
theorem dX6_tell_23 : decode cX6_tell 23 = .ok (.aload_n 0, 1) := by decide +kernel
theorem dX6_tell_24 : decode cX6_tell 24 = .ok (.getfield 18, 3) := by decide +kernel
theorem dX6_tell_27 : decode cX6_tell 27 = .ok (.istore_n 3, 1) := by decide +kernel
theorem dX6_tell_28 : decode cX6_tell 28 = .ok (.iload_n 3, 1) := by decide +kernel
theorem dX6_tell_29 : decode cX6_tell 29 = .ok (.ifCond .ne 6, 3) := by decide +kernel
theorem dX6_tell_32 : decode cX6_tell 32 = .ok (.bipush (-4), 2) := by decide +kernel
theorem dX6_tell_34 : decode cX6_tell 34 = .ok (.ireturn, 1) := by decide +kernel
theorem dX6_tell_35 : decode cX6_tell 35 = .ok (.iload_n 1, 1) := by decide +kernel
theorem dX6_tell_36 : decode cX6_tell 36 = .ok (.ifCond .ne 10, 3) := by decide +kernel
theorem dX6_tell_39 : decode cX6_tell 39 = .ok (.aload_n 0, 1) := by decide +kernel
theorem dX6_tell_40 : decode cX6_tell 40 = .ok (.getfield 15, 3) := by decide +kernel
theorem dX6_tell_43 : decode cX6_tell 43 = .ok (.goto 7, 3) := by decide +kernel
theorem dX6_tell_46 : decode cX6_tell 46 = .ok (.aload_n 0, 1) := by decide +kernel
theorem dX6_tell_47 : decode cX6_tell 47 = .ok (.getfield 21, 3) := by decide +kernel
theorem dX6_tell_50 : decode cX6_tell 50 = .ok (.istore 4, 2) := by decide +kernel
theorem dX6_tell_52 : decode cX6_tell 52 = .ok (.iload_n 2, 1) := by decide +kernel
theorem dX6_tell_53 : decode cX6_tell 53 = .ok (.ifCond .eq 8, 3) := by decide +kernel
theorem dX6_tell_56 : decode cX6_tell 56 = .ok (.iload 4, 2) := by decide +kernel
theorem dX6_tell_58 : decode cX6_tell 58 = .ok (.goto 4, 3) := by decide +kernel
theorem dX6_tell_61 : decode cX6_tell 61 = .ok (.iload_n 3, 1) := by decide +kernel
theorem dX6_tell_62 : decode cX6_tell 62 = .ok (.ireturn, 1) := by decide +kernel
theorem dX7_init_0 : decode cX7_init 0 = .ok (.aload_n 0, 1) := by decide +kernel
theorem dX7_init_1 : decode cX7_init 1 = .ok (.invokespecial 3, 3) := by decide +kernel
theorem dX7_init_4 : decode cX7_init 4 = .ok (.aload_n 0, 1) := by decide +kernel
theorem dX7_init_5 : decode cX7_init 5 = .ok (.iconst 3, 1) := by decide +kernel
theorem dX7_init_6 : decode cX7_init 6 = .ok (.newarray .int, 2) := by decide +kernel
theorem dX7_init_8 : decode cX7_init 8 = .ok (.putfield 9, 3) := by decide +kernel
theorem dX7_init_11 : decode cX7_init 11 = .ok (.aload_n 0, 1) := by decide +kernel
theorem dX7_init_12 : decode cX7_init 12 = .ok (.iconst 3, 1) := by decide +kernel
theorem dX7_init_13 : decode cX7_init 13 = .ok (.newarray .int, 2) := by decide +kernel
theorem dX7_init_15 : decode cX7_init 15 = .ok (.putfield 15, 3) := by decide +kernel
theorem dX7_init_18 : decode cX7_init 18 = .ok (.aload_n 0, 1) := by decide +kernel
theorem dX7_init_19 : decode cX7_init 19 = .ok (.iconst 3, 1) := by decide +kernel
theorem dX7_init_20 : decode cX7_init 20 = .ok (.newarray .int, 2) := by decide +kernel
theorem dX7_init_22 : decode cX7_init 22 = .ok (.putfield 18, 3) := by decide +kernel
theorem dX7_init_25 : decode cX7_init 25 = .ok (.aload_n 0, 1) := by decide +kernel
theorem dX7_init_26 : decode cX7_init 26 = .ok (.iconst 3, 1) := by decide +kernel
theorem dX7_init_27 : decode cX7_init 27 = .ok (.newarray .int, 2) := by decide +kernel
theorem dX7_init_29 : decode cX7_init 29 = .ok (.putfield 21, 3) := by decide +kernel
theorem dX7_init_32 : decode cX7_init 32 = .ok (.return_, 1) := by decide +kernel
theorem dX7_makeEmpty_0 : decode cX7_makeEmpty 0 = .ok (.aload_n 0, 1) := by decide +kernel
theorem dX7_makeEmpty_1 : decode cX7_makeEmpty 1 = .ok (.iconst 0, 1) := by decide +kernel
theorem dX7_makeEmpty_2 : decode cX7_makeEmpty 2 = .ok (.putfield 24, 3) := by decide +kernel
theorem dX7_makeEmpty_5 : decode cX7_makeEmpty 5 = .ok (.aload_n 0, 1) := by decide +kernel
theorem dX7_makeEmpty_6 : decode cX7_makeEmpty 6 = .ok (.getfield 9, 3) := by decide +kernel
theorem dX7_makeEmpty_9 : decode cX7_makeEmpty 9 = .ok (.iconst (-1), 1) := by decide +kernel
theorem dX7_makeEmpty_10 : decode cX7_makeEmpty 10 = .ok (.invokestatic 28, 3) := by decide +kernel
theorem dX7_makeEmpty_13 : decode cX7_makeEmpty 13 = .ok (.aload_n 0, 1) := by decide +kernel
theorem dX7_makeEmpty_14 : decode cX7_makeEmpty 14 = .ok (.getfield 15, 3) := by decide +kernel
theorem dX7_makeEmpty_17 : decode cX7_makeEmpty 17 = .ok (.iconst 0, 1) := by decide +kernel
theorem dX7_makeEmpty_18 : decode cX7_makeEmpty 18 = .ok (.invokestatic 28, 3) := by decide +kernel
theorem dX7_makeEmpty_21 : decode cX7_makeEmpty 21 = .ok (.aload_n 0, 1) := by decide +kernel
theorem dX7_makeEmpty_22 : decode cX7_makeEmpty 22 = .ok (.getfield 18, 3) := by decide +kernel
theorem dX7_makeEmpty_25 : decode cX7_makeEmpty 25 = .ok (.iconst 0, 1) := by decide +kernel
theorem dX7_makeEmpty_26 : decode cX7_makeEmpty 26 = .ok (.invokestatic 28, 3) := by decide +kernel
theorem dX7_makeEmpty_29 : decode cX7_makeEmpty 29 = .ok (.aload_n 0, 1) := by decide +kernel
theorem dX7_makeEmpty_30 : decode cX7_makeEmpty 30 = .ok (.getfield 21, 3) := by decide +kernel
theorem dX7_makeEmpty_33 : decode cX7_makeEmpty 33 = .ok (.iconst 0, 1) := by decide +kernel
theorem dX7_makeEmpty_34 : decode cX7_makeEmpty 34 = .ok (.invokestatic 28, 3) := by decide +kernel
theorem dX7_makeEmpty_37 : decode cX7_makeEmpty 37 = .ok (.return_, 1) := by decide +kernel
theorem dX7_takeOver_0 : decode cX7_takeOver 0 = .ok (.aload_n 1, 1) := by decide +kernel
theorem dX7_takeOver_1 : decode cX7_takeOver 1 = .ok (.getfield 9, 3) := by decide +kernel
theorem dX7_takeOver_4 : decode cX7_takeOver 4 = .ok (.aload_n 0, 1) := by decide +kernel
theorem dX7_takeOver_5 : decode cX7_takeOver 5 = .ok (.getfield 9, 3) := by decide +kernel
theorem dX7_takeOver_8 : decode cX7_takeOver 8 = .ok (.invokestatic 32, 3) := by decide +kernel
theorem dX7_takeOver_11 : decode cX7_takeOver 11 = .ok (.aload_n 1, 1) := by decide +kernel
theorem dX7_takeOver_12 : decode cX7_takeOver 12 = .ok (.getfield 15, 3) := by decide +kernel
theorem dX7_takeOver_15 : decode cX7_takeOver 15 = .ok (.aload_n 0, 1) := by decide +kernel
theorem dX7_takeOver_16 : decode cX7_takeOver 16 = .ok (.getfield 15, 3) := by decide +kernel
theorem dX7_takeOver_19 : decode cX7_takeOver 19 = .ok (.invokestatic 32, 3) := by decide +kernel
theorem dX7_takeOver_22 : decode cX7_takeOver 22 = .ok (.aload_n 1, 1) := by decide +kernel
theorem dX7_takeOver_23 : decode cX7_takeOver 23 = .ok (.getfield 18, 3) := by decide +kernel
theorem dX7_takeOver_26 : decode cX7_takeOver 26 = .ok (.aload_n 0, 1) := by decide +kernel
theorem dX7_takeOver_27 : decode cX7_takeOver 27 = .ok (.getfield 18, 3) := by decide +kernel
theorem dX7_takeOver_30 : decode cX7_takeOver 30 = .ok (.invokestatic 32, 3) := by decide +kernel
theorem dX7_takeOver_33 : decode cX7_takeOver 33 = .ok (.aload_n 1, 1) := by decide +kernel
theorem dX7_takeOver_34 : decode cX7_takeOver 34 = .ok (.getfield 21, 3) := by decide +kernel
theorem dX7_takeOver_37 : decode cX7_takeOver 37 = .ok (.aload_n 0, 1) := by decide +kernel
theorem dX7_takeOver_38 : decode cX7_takeOver 38 = .ok (.getfield 21, 3) := by decide +kernel
theorem dX7_takeOver_41 : decode cX7_takeOver 41 = .ok (.invokestatic 32, 3) := by decide +kernel
theorem dX7_takeOver_44 : decode cX7_takeOver 44 = .ok (.aload_n 0, 1) := by decide +kernel
theorem dX7_takeOver_45 : decode cX7_takeOver 45 = .ok (.aload_n 1, 1) := by decide +kernel
theorem dX7_takeOver_46 : decode cX7_takeOver 46 = .ok (.getfield 24, 3) := by decide +kernel
theorem dX7_takeOver_49 : decode cX7_takeOver 49 = .ok (.putfield 24, 3) := by decide +kernel
theorem dX7_takeOver_52 : decode cX7_takeOver 52 = .ok (.return_, 1) := by decide +kernel
theorem dX7_add_0 : decode cX7_add 0 = .ok (.aload_n 0, 1) := by decide +kernel
theorem dX7_add_1 : decode cX7_add 1 = .ok (.getfield 24, 3) := by decide +kernel
theorem dX7_add_4 : decode cX7_add 4 = .ok (.istore_n 3, 1) := by decide +kernel
theorem dX7_add_5 : decode cX7_add 5 = .ok (.aload_n 0, 1) := by decide +kernel
theorem dX7_add_6 : decode cX7_add 6 = .ok (.getfield 9, 3) := by decide +kernel
theorem dX7_add_9 : decode cX7_add 9 = .ok (.iload_n 3, 1) := by decide +kernel
theorem dX7_add_10 : decode cX7_add 10 = .ok (.iload_n 1, 1) := by decide +kernel
theorem dX7_add_11 : decode cX7_add 11 = .ok (.invokestatic 36, 3) := by decide +kernel
theorem dX7_add_14 : decode cX7_add 14 = .ok (.aload_n 0, 1) := by decide +kernel
theorem dX7_add_15 : decode cX7_add 15 = .ok (.getfield 15, 3) := by decide +kernel
theorem dX7_add_18 : decode cX7_add 18 = .ok (.iload_n 3, 1) := by decide +kernel
theorem dX7_add_19 : decode cX7_add 19 = .ok (.iload_n 2, 1) := by decide +kernel
theorem dX7_add_20 : decode cX7_add 20 = .ok (.invokestatic 36, 3) := by decide +kernel
theorem dX7_add_23 : decode cX7_add 23 = .ok (.aload_n 0, 1) := by decide +kernel
theorem dX7_add_24 : decode cX7_add 24 = .ok (.getfield 18, 3) := by decide +kernel
theorem dX7_add_27 : decode cX7_add 27 = .ok (.iload_n 3, 1) := by decide +kernel
theorem dX7_add_28 : decode cX7_add 28 = .ok (.iconst 0, 1) := by decide +kernel
theorem dX7_add_29 : decode cX7_add 29 = .ok (.invokestatic 36, 3) := by decide +kernel
theorem dX7_add_32 : decode cX7_add 32 = .ok (.aload_n 0, 1) := by decide +kernel
theorem dX7_add_33 : decode cX7_add 33 = .ok (.getfield 21, 3) := by decide +kernel
theorem dX7_add_36 : decode cX7_add 36 = .ok (.iload_n 3, 1) := by decide +kernel
theorem dX7_add_37 : decode cX7_add 37 = .ok (.iconst 0, 1) := by decide +kernel
theorem dX7_add_38 : decode cX7_add 38 = .ok (.invokestatic 36, 3) := by decide +kernel
theorem dX7_add_41 : decode cX7_add 41 = .ok (.aload_n 0, 1) := by decide +kernel
theorem dX7_add_42 : decode cX7_add 42 = .ok (.dup, 1) := by decide +kernel
theorem dX7_add_43 : decode cX7_add 43 = .ok (.getfield 24, 3) := by decide +kernel
theorem dX7_add_46 : decode cX7_add 46 = .ok (.iconst 1, 1) := by decide +kernel
theorem dX7_add_47 : decode cX7_add 47 = .ok (.iadd, 1) := by decide +kernel
theorem dX7_add_48 : decode cX7_add 48 = .ok (.putfield 24, 3) := by decide +kernel
theorem dX7_add_51 : decode cX7_add 51 = .ok (.iload_n 3, 1) := by decide +kernel
theorem dX7_add_52 : decode cX7_add 52 = .ok (.ireturn, 1) := by decide +kernel
theorem dX7_isUnderway_0 : decode cX7_isUnderway 0 = .ok (.iload_n 1, 1) := by decide +kernel
theorem dX7_isUnderway_1 : decode cX7_isUnderway 1 = .ok (.ifCond .lt 26, 3) := by decide +kernel
theorem dX7_isUnderway_4 : decode cX7_isUnderway 4 = .ok (.iload_n 1, 1) := by decide +kernel
theorem dX7_isUnderway_5 : decode cX7_isUnderway 5 = .ok (.aload_n 0, 1) := by decide +kernel
theorem dX7_isUnderway_6 : decode cX7_isUnderway 6 = .ok (.getfield 24, 3) := by decide +kernel
theorem dX7_isUnderway_9 : decode cX7_isUnderway 9 = .ok (.if_icmp .ge 18, 3) := by decide +kernel
theorem dX7_isUnderway_12 : decode cX7_isUnderway 12 = .ok (.aload_n 0, 1) := by decide +kernel
theorem dX7_isUnderway_13 : decode cX7_isUnderway 13 = .ok (.getfield 21, 3) := by decide +kernel
theorem dX7_isUnderway_16 : decode cX7_isUnderway 16 = .ok (.iload_n 1, 1) := by decide +kernel
theorem dX7_isUnderway_17 : decode cX7_isUnderway 17 = .ok (.invokestatic 40, 3) := by decide +kernel
theorem dX7_isUnderway_20 : decode cX7_isUnderway 20 = .ok (.ifCond .ne 7, 3) := by decide +kernel
theorem dX7_isUnderway_23 : decode cX7_isUnderway 23 = .ok (.iconst 1, 1) := by decide +kernel
theorem dX7_isUnderway_24 : decode cX7_isUnderway 24 = .ok (.goto 4, 3) := by decide +kernel
theorem dX7_isUnderway_27 : decode cX7_isUnderway 27 = .ok (.iconst 0, 1) := by decide +kernel
theorem dX7_isUnderway_28 : decode cX7_isUnderway 28 = .ok (.ireturn, 1) := by decide +kernel
theorem dX7_placeAt_0 : decode cX7_placeAt 0 = .ok (.aload_n 0, 1) := by decide +kernel
theorem dX7_placeAt_1 : decode cX7_placeAt 1 = .ok (.getfield 9, 3) := by decide +kernel
theorem dX7_placeAt_4 : decode cX7_placeAt 4 = .ok (.iload_n 1, 1) := by decide +kernel
theorem dX7_placeAt_5 : decode cX7_placeAt 5 = .ok (.invokestatic 40, 3) := by decide +kernel
theorem dX7_placeAt_8 : decode cX7_placeAt 8 = .ok (.ireturn, 1) := by decide +kernel
theorem dX7_drag_0 : decode cX7_drag 0 = .ok (.aload_n 0, 1) := by decide +kernel
theorem dX7_drag_1 : decode cX7_drag 1 = .ok (.getfield 18, 3) := by decide +kernel
theorem dX7_drag_4 : decode cX7_drag 4 = .ok (.iload_n 1, 1) := by decide +kernel
theorem dX7_drag_5 : decode cX7_drag 5 = .ok (.aload_n 0, 1) := by decide +kernel
theorem dX7_drag_6 : decode cX7_drag 6 = .ok (.getfield 18, 3) := by decide +kernel
theorem dX7_drag_9 : decode cX7_drag 9 = .ok (.iload_n 1, 1) := by decide +kernel
theorem dX7_drag_10 : decode cX7_drag 10 = .ok (.invokestatic 40, 3) := by decide +kernel
theorem dX7_drag_13 : decode cX7_drag 13 = .ok (.iconst 1, 1) := by decide +kernel
theorem dX7_drag_14 : decode cX7_drag 14 = .ok (.iadd, 1) := by decide +kernel
theorem dX7_drag_15 : decode cX7_drag 15 = .ok (.invokestatic 36, 3) := by decide +kernel
theorem dX7_drag_18 : decode cX7_drag 18 = .ok (.iload_n 2, 1) := by decide +kernel
theorem dX7_drag_19 : decode cX7_drag 19 = .ok (.ifCond .lt 15, 3) := by decide +kernel
theorem dX7_drag_22 : decode cX7_drag 22 = .ok (.aload_n 0, 1) := by decide +kernel
theorem dX7_drag_23 : decode cX7_drag 23 = .ok (.getfield 9, 3) := by decide +kernel
theorem dX7_drag_26 : decode cX7_drag 26 = .ok (.iload_n 1, 1) := by decide +kernel
theorem dX7_drag_27 : decode cX7_drag 27 = .ok (.iload_n 2, 1) := by decide +kernel
theorem dX7_drag_28 : decode cX7_drag 28 = .ok (.invokestatic 36, 3) := by decide +kernel
theorem dX7_drag_31 : decode cX7_drag 31 = .ok (.goto 12, 3) := by decide +kernel
theorem dX7_drag_34 : decode cX7_drag 34 = .ok (.aload_n 0, 1) := by decide +kernel
theorem dX7_drag_35 : decode cX7_drag 35 = .ok (.getfield 21, 3) := by decide +kernel
theorem dX7_drag_38 : decode cX7_drag 38 = .ok (.iload_n 1, 1) := by decide +kernel
theorem dX7_drag_39 : decode cX7_drag 39 = .ok (.iconst 1, 1) := by decide +kernel
theorem dX7_drag_40 : decode cX7_drag 40 = .ok (.invokestatic 36, 3) := by decide +kernel
theorem dX7_drag_43 : decode cX7_drag 43 = .ok (.return_, 1) := by decide +kernel
theorem dX7_countUnderway_0 : decode cX7_countUnderway 0 = .ok (.aload_n 0, 1) := by decide +kernel
theorem dX7_countUnderway_1 : decode cX7_countUnderway 1 = .ok (.getfield 24, 3) := by decide +kernel
theorem dX7_countUnderway_4 : decode cX7_countUnderway 4 = .ok (.aload_n 0, 1) := by decide +kernel
theorem dX7_countUnderway_5 : decode cX7_countUnderway 5 = .ok (.invokevirtual 44, 3) := by decide +kernel
theorem dX7_countUnderway_8 : decode cX7_countUnderway 8 = .ok (.isub, 1) := by decide +kernel
theorem dX7_countUnderway_9 : decode cX7_countUnderway 9 = .ok (.ireturn, 1) := by decide +kernel
theorem dX7_countArrived_0 : decode cX7_countArrived 0 = .ok (.iconst 0, 1) := by decide +kernel
theorem dX7_countArrived_1 : decode cX7_countArrived 1 = .ok (.istore_n 1, 1) := by decide +kernel
theorem dX7_countArrived_2 : decode cX7_countArrived 2 = .ok (.iconst 0, 1) := by decide +kernel
theorem dX7_countArrived_3 : decode cX7_countArrived 3 = .ok (.istore_n 2, 1) := by decide +kernel
theorem dX7_countArrived_4 : decode cX7_countArrived 4 = .ok (.iload_n 2, 1) := by decide +kernel
theorem dX7_countArrived_5 : decode cX7_countArrived 5 = .ok (.aload_n 0, 1) := by decide +kernel
theorem dX7_countArrived_6 : decode cX7_countArrived 6 = .ok (.getfield 24, 3) := by decide +kernel
theorem dX7_countArrived_9 : decode cX7_countArrived 9 = .ok (.if_icmp .ge 20, 3) := by decide +kernel
theorem dX7_countArrived_12 : decode cX7_countArrived 12 = .ok (.iload_n 1, 1) := by decide +kernel
theorem dX7_countArrived_13 : decode cX7_countArrived 13 = .ok (.aload_n 0, 1) := by decide +kernel
theorem dX7_countArrived_14 : decode cX7_countArrived 14 = .ok (.getfield 21, 3) := by decide +kernel
theorem dX7_countArrived_17 : decode cX7_countArrived 17 = .ok (.iload_n 2, 1) := by decide +kernel
theorem dX7_countArrived_18 : decode cX7_countArrived 18 = .ok (.invokestatic 40, 3) := by decide +kernel
theorem dX7_countArrived_21 : decode cX7_countArrived 21 = .ok (.iadd, 1) := by decide +kernel
theorem dX7_countArrived_22 : decode cX7_countArrived 22 = .ok (.istore_n 1, 1) := by decide +kernel
theorem dX7_countArrived_23 : decode cX7_countArrived 23 = .ok (.iinc 2 1, 3) := by decide +kernel
theorem dX7_countArrived_26 : decode cX7_countArrived 26 = .ok (.goto (-22), 3) := by decide +kernel
theorem dX7_countArrived_29 : decode cX7_countArrived 29 = .ok (.iload_n 1, 1) := by decide +kernel
theorem dX7_countArrived_30 : decode cX7_countArrived 30 = .ok (.ireturn, 1) := by decide +kernel
theorem dX7_arrivedLoads_0 : decode cX7_arrivedLoads 0 = .ok (.iconst 0, 1) := by decide +kernel
theorem dX7_arrivedLoads_1 : decode cX7_arrivedLoads 1 = .ok (.istore_n 1, 1) := by decide +kernel
theorem dX7_arrivedLoads_2 : decode cX7_arrivedLoads 2 = .ok (.iconst 0, 1) := by decide +kernel
theorem dX7_arrivedLoads_3 : decode cX7_arrivedLoads 3 = .ok (.istore_n 2, 1) := by decide +kernel
theorem dX7_arrivedLoads_4 : decode cX7_arrivedLoads 4 = .ok (.iload_n 2, 1) := by decide +kernel
theorem dX7_arrivedLoads_5 : decode cX7_arrivedLoads 5 = .ok (.aload_n 0, 1) := by decide +kernel
theorem dX7_arrivedLoads_6 : decode cX7_arrivedLoads 6 = .ok (.getfield 24, 3) := by decide +kernel
theorem dX7_arrivedLoads_9 : decode cX7_arrivedLoads 9 = .ok (.if_icmp .ge 36, 3) := by decide +kernel
theorem dX7_arrivedLoads_12 : decode cX7_arrivedLoads 12 = .ok (.iload_n 1, 1) := by decide +kernel
theorem dX7_arrivedLoads_13 : decode cX7_arrivedLoads 13 = .ok (.aload_n 0, 1) := by decide +kernel
theorem dX7_arrivedLoads_14 : decode cX7_arrivedLoads 14 = .ok (.getfield 21, 3) := by decide +kernel
theorem dX7_arrivedLoads_17 : decode cX7_arrivedLoads 17 = .ok (.iload_n 2, 1) := by decide +kernel
theorem dX7_arrivedLoads_18 : decode cX7_arrivedLoads 18 = .ok (.invokestatic 40, 3) := by decide +kernel
theorem dX7_arrivedLoads_21 : decode cX7_arrivedLoads 21 = .ok (.iconst 1, 1) := by decide +kernel
theorem dX7_arrivedLoads_22 : decode cX7_arrivedLoads 22 = .ok (.if_icmp .ne 14, 3) := by decide +kernel
theorem dX7_arrivedLoads_25 : decode cX7_arrivedLoads 25 = .ok (.aload_n 0, 1) := by decide +kernel
theorem dX7_arrivedLoads_26 : decode cX7_arrivedLoads 26 = .ok (.getfield 15, 3) := by decide +kernel
theorem dX7_arrivedLoads_29 : decode cX7_arrivedLoads 29 = .ok (.iload_n 2, 1) := by decide +kernel
theorem dX7_arrivedLoads_30 : decode cX7_arrivedLoads 30 = .ok (.invokestatic 40, 3) := by decide +kernel
theorem dX7_arrivedLoads_33 : decode cX7_arrivedLoads 33 = .ok (.goto 4, 3) := by decide +kernel
theorem dX7_arrivedLoads_36 : decode cX7_arrivedLoads 36 = .ok (.iconst 0, 1) := by decide +kernel
theorem dX7_arrivedLoads_37 : decode cX7_arrivedLoads 37 = .ok (.iadd, 1) := by decide +kernel
theorem dX7_arrivedLoads_38 : decode cX7_arrivedLoads 38 = .ok (.istore_n 1, 1) := by decide +kernel
theorem dX7_arrivedLoads_39 : decode cX7_arrivedLoads 39 = .ok (.iinc 2 1, 3) := by decide +kernel
theorem dX7_arrivedLoads_42 : decode cX7_arrivedLoads 42 = .ok (.goto (-38), 3) := by decide +kernel
theorem dX7_arrivedLoads_45 : decode cX7_arrivedLoads 45 = .ok (.iload_n 1, 1) := by decide +kernel
theorem dX7_arrivedLoads_46 : decode cX7_arrivedLoads 46 = .ok (.ireturn, 1) := by decide +kernel
theorem dX7_countAt_0 : decode cX7_countAt 0 = .ok (.iconst 0, 1) := by decide +kernel
theorem dX7_countAt_1 : decode cX7_countAt 1 = .ok (.istore_n 2, 1) := by decide +kernel
theorem dX7_countAt_2 : decode cX7_countAt 2 = .ok (.iconst 0, 1) := by decide +kernel
theorem dX7_countAt_3 : decode cX7_countAt 3 = .ok (.istore_n 3, 1) := by decide +kernel
theorem dX7_countAt_4 : decode cX7_countAt 4 = .ok (.iload_n 3, 1) := by decide +kernel
theorem dX7_countAt_5 : decode cX7_countAt 5 = .ok (.aload_n 0, 1) := by decide +kernel
theorem dX7_countAt_6 : decode cX7_countAt 6 = .ok (.getfield 24, 3) := by decide +kernel
theorem dX7_countAt_9 : decode cX7_countAt 9 = .ok (.if_icmp .ge 34, 3) := by decide +kernel
theorem dX7_countAt_12 : decode cX7_countAt 12 = .ok (.iload_n 2, 1) := by decide +kernel
theorem dX7_countAt_13 : decode cX7_countAt 13 = .ok (.aload_n 0, 1) := by decide +kernel
theorem dX7_countAt_14 : decode cX7_countAt 14 = .ok (.iload_n 3, 1) := by decide +kernel
theorem dX7_countAt_15 : decode cX7_countAt 15 = .ok (.invokevirtual 48, 3) := by decide +kernel
theorem dX7_countAt_18 : decode cX7_countAt 18 = .ok (.ifCond .eq 16, 3) := by decide +kernel
theorem dX7_countAt_21 : decode cX7_countAt 21 = .ok (.aload_n 0, 1) := by decide +kernel
theorem dX7_countAt_22 : decode cX7_countAt 22 = .ok (.iload_n 3, 1) := by decide +kernel
theorem dX7_countAt_23 : decode cX7_countAt 23 = .ok (.invokevirtual 52, 3) := by decide +kernel
theorem dX7_countAt_26 : decode cX7_countAt 26 = .ok (.iload_n 1, 1) := by decide +kernel
theorem dX7_countAt_27 : decode cX7_countAt 27 = .ok (.if_icmp .ne 7, 3) := by decide +kernel
theorem dX7_countAt_30 : decode cX7_countAt 30 = .ok (.iconst 1, 1) := by decide +kernel
theorem dX7_countAt_31 : decode cX7_countAt 31 = .ok (.goto 4, 3) := by decide +kernel
theorem dX7_countAt_34 : decode cX7_countAt 34 = .ok (.iconst 0, 1) := by decide +kernel
theorem dX7_countAt_35 : decode cX7_countAt 35 = .ok (.iadd, 1) := by decide +kernel
theorem dX7_countAt_36 : decode cX7_countAt 36 = .ok (.istore_n 2, 1) := by decide +kernel
theorem dX7_countAt_37 : decode cX7_countAt 37 = .ok (.iinc 3 1, 3) := by decide +kernel
theorem dX7_countAt_40 : decode cX7_countAt 40 = .ok (.goto (-36), 3) := by decide +kernel
theorem dX7_countAt_43 : decode cX7_countAt 43 = .ok (.iload_n 2, 1) := by decide +kernel
theorem dX7_countAt_44 : decode cX7_countAt 44 = .ok (.ireturn, 1) := by decide +kernel
theorem dX7_tell_0 : decode cX7_tell 0 = .ok (.iload_n 1, 1) := by decide +kernel
theorem dX7_tell_1 : decode cX7_tell 1 = .ok (.ifCond .lt 11, 3) := by decide +kernel
theorem dX7_tell_4 : decode cX7_tell 4 = .ok (.iload_n 1, 1) := by decide +kernel
theorem dX7_tell_5 : decode cX7_tell 5 = .ok (.aload_n 0, 1) := by decide +kernel
theorem dX7_tell_6 : decode cX7_tell 6 = .ok (.getfield 24, 3) := by decide +kernel
theorem dX7_tell_9 : decode cX7_tell 9 = .ok (.if_icmp .lt 5, 3) := by decide +kernel
theorem dX7_tell_12 : decode cX7_tell 12 = .ok (.iconst (-1), 1) := by decide +kernel
theorem dX7_tell_13 : decode cX7_tell 13 = .ok (.ireturn, 1) := by decide +kernel
theorem dX7_tell_14 : decode cX7_tell 14 = .ok (.iload_n 2, 1) := by decide +kernel
theorem dX7_tell_15 : decode cX7_tell 15 = .ok (.tableswitch 73 0 3 #[29, 40, 51, 62], 29) := by decide +kernel
theorem dX7_tell_44 : decode cX7_tell 44 = .ok (.aload_n 0, 1) := by decide +kernel
theorem dX7_tell_45 : decode cX7_tell 45 = .ok (.getfield 9, 3) := by decide +kernel
theorem dX7_tell_48 : decode cX7_tell 48 = .ok (.iload_n 1, 1) := by decide +kernel
theorem dX7_tell_49 : decode cX7_tell 49 = .ok (.invokestatic 40, 3) := by decide +kernel
theorem dX7_tell_52 : decode cX7_tell 52 = .ok (.goto 38, 3) := by decide +kernel
theorem dX7_tell_55 : decode cX7_tell 55 = .ok (.aload_n 0, 1) := by decide +kernel
theorem dX7_tell_56 : decode cX7_tell 56 = .ok (.getfield 15, 3) := by decide +kernel
theorem dX7_tell_59 : decode cX7_tell 59 = .ok (.iload_n 1, 1) := by decide +kernel
theorem dX7_tell_60 : decode cX7_tell 60 = .ok (.invokestatic 40, 3) := by decide +kernel
theorem dX7_tell_63 : decode cX7_tell 63 = .ok (.goto 27, 3) := by decide +kernel
theorem dX7_tell_66 : decode cX7_tell 66 = .ok (.aload_n 0, 1) := by decide +kernel
theorem dX7_tell_67 : decode cX7_tell 67 = .ok (.getfield 18, 3) := by decide +kernel
theorem dX7_tell_70 : decode cX7_tell 70 = .ok (.iload_n 1, 1) := by decide +kernel
theorem dX7_tell_71 : decode cX7_tell 71 = .ok (.invokestatic 40, 3) := by decide +kernel
theorem dX7_tell_74 : decode cX7_tell 74 = .ok (.goto 16, 3) := by decide +kernel
theorem dX7_tell_77 : decode cX7_tell 77 = .ok (.aload_n 0, 1) := by decide +kernel
theorem dX7_tell_78 : decode cX7_tell 78 = .ok (.getfield 21, 3) := by decide +kernel
theorem dX7_tell_81 : decode cX7_tell 81 = .ok (.iload_n 1, 1) := by decide +kernel
theorem dX7_tell_82 : decode cX7_tell 82 = .ok (.invokestatic 40, 3) := by decide +kernel
theorem dX7_tell_85 : decode cX7_tell 85 = .ok (.goto 5, 3) := by decide +kernel
theorem dX7_tell_88 : decode cX7_tell 88 = .ok (.bipush (-2), 2) := by decide +kernel
theorem dX7_tell_90 : decode cX7_tell 90 = .ok (.ireturn, 1) := by decide +kernel
theorem dX8_init_0 : decode cX8_init 0 = .ok (.aload_n 0, 1) := by decide +kernel
theorem dX8_init_1 : decode cX8_init 1 = .ok (.invokespecial 3, 3) := by decide +kernel
theorem dX8_init_4 : decode cX8_init 4 = .ok (.aload_n 0, 1) := by decide +kernel
theorem dX8_init_5 : decode cX8_init 5 = .ok (.bipush 16, 2) := by decide +kernel
theorem dX8_init_7 : decode cX8_init 7 = .ok (.newarray .int, 2) := by decide +kernel
theorem dX8_init_9 : decode cX8_init 9 = .ok (.putfield 9, 3) := by decide +kernel
theorem dX8_init_12 : decode cX8_init 12 = .ok (.aload_n 0, 1) := by decide +kernel
theorem dX8_init_13 : decode cX8_init 13 = .ok (.bipush 16, 2) := by decide +kernel
theorem dX8_init_15 : decode cX8_init 15 = .ok (.newarray .int, 2) := by decide +kernel
theorem dX8_init_17 : decode cX8_init 17 = .ok (.putfield 15, 3) := by decide +kernel
theorem dX8_init_20 : decode cX8_init 20 = .ok (.aload_n 0, 1) := by decide +kernel
theorem dX8_init_21 : decode cX8_init 21 = .ok (.bipush 16, 2) := by decide +kernel
theorem dX8_init_23 : decode cX8_init 23 = .ok (.newarray .int, 2) := by decide +kernel
theorem dX8_init_25 : decode cX8_init 25 = .ok (.putfield 18, 3) := by decide +kernel
theorem dX8_init_28 : decode cX8_init 28 = .ok (.return_, 1) := by decide +kernel
theorem dX8_makeEmpty_0 : decode cX8_makeEmpty 0 = .ok (.aload_n 0, 1) := by decide +kernel
theorem dX8_makeEmpty_1 : decode cX8_makeEmpty 1 = .ok (.iconst 0, 1) := by decide +kernel
theorem dX8_makeEmpty_2 : decode cX8_makeEmpty 2 = .ok (.putfield 21, 3) := by decide +kernel
theorem dX8_makeEmpty_5 : decode cX8_makeEmpty 5 = .ok (.aload_n 0, 1) := by decide +kernel
theorem dX8_makeEmpty_6 : decode cX8_makeEmpty 6 = .ok (.getfield 9, 3) := by decide +kernel
theorem dX8_makeEmpty_9 : decode cX8_makeEmpty 9 = .ok (.iconst (-1), 1) := by decide +kernel
theorem dX8_makeEmpty_10 : decode cX8_makeEmpty 10 = .ok (.invokestatic 25, 3) := by decide +kernel
theorem dX8_makeEmpty_13 : decode cX8_makeEmpty 13 = .ok (.aload_n 0, 1) := by decide +kernel
theorem dX8_makeEmpty_14 : decode cX8_makeEmpty 14 = .ok (.getfield 15, 3) := by decide +kernel
theorem dX8_makeEmpty_17 : decode cX8_makeEmpty 17 = .ok (.iconst (-1), 1) := by decide +kernel
theorem dX8_makeEmpty_18 : decode cX8_makeEmpty 18 = .ok (.invokestatic 25, 3) := by decide +kernel
theorem dX8_makeEmpty_21 : decode cX8_makeEmpty 21 = .ok (.aload_n 0, 1) := by decide +kernel
theorem dX8_makeEmpty_22 : decode cX8_makeEmpty 22 = .ok (.getfield 18, 3) := by decide +kernel
theorem dX8_makeEmpty_25 : decode cX8_makeEmpty 25 = .ok (.iconst (-1), 1) := by decide +kernel
theorem dX8_makeEmpty_26 : decode cX8_makeEmpty 26 = .ok (.invokestatic 25, 3) := by decide +kernel
theorem dX8_makeEmpty_29 : decode cX8_makeEmpty 29 = .ok (.return_, 1) := by decide +kernel
theorem dX8_takeOver_0 : decode cX8_takeOver 0 = .ok (.aload_n 1, 1) := by decide +kernel
theorem dX8_takeOver_1 : decode cX8_takeOver 1 = .ok (.getfield 9, 3) := by decide +kernel
theorem dX8_takeOver_4 : decode cX8_takeOver 4 = .ok (.aload_n 0, 1) := by decide +kernel
theorem dX8_takeOver_5 : decode cX8_takeOver 5 = .ok (.getfield 9, 3) := by decide +kernel
theorem dX8_takeOver_8 : decode cX8_takeOver 8 = .ok (.invokestatic 29, 3) := by decide +kernel
theorem dX8_takeOver_11 : decode cX8_takeOver 11 = .ok (.aload_n 1, 1) := by decide +kernel
theorem dX8_takeOver_12 : decode cX8_takeOver 12 = .ok (.getfield 15, 3) := by decide +kernel
theorem dX8_takeOver_15 : decode cX8_takeOver 15 = .ok (.aload_n 0, 1) := by decide +kernel
theorem dX8_takeOver_16 : decode cX8_takeOver 16 = .ok (.getfield 15, 3) := by decide +kernel
theorem dX8_takeOver_19 : decode cX8_takeOver 19 = .ok (.invokestatic 29, 3) := by decide +kernel
theorem dX8_takeOver_22 : decode cX8_takeOver 22 = .ok (.aload_n 1, 1) := by decide +kernel
theorem dX8_takeOver_23 : decode cX8_takeOver 23 = .ok (.getfield 18, 3) := by decide +kernel
theorem dX8_takeOver_26 : decode cX8_takeOver 26 = .ok (.aload_n 0, 1) := by decide +kernel
theorem dX8_takeOver_27 : decode cX8_takeOver 27 = .ok (.getfield 18, 3) := by decide +kernel
theorem dX8_takeOver_30 : decode cX8_takeOver 30 = .ok (.invokestatic 29, 3) := by decide +kernel
theorem dX8_takeOver_33 : decode cX8_takeOver 33 = .ok (.aload_n 0, 1) := by decide +kernel
theorem dX8_takeOver_34 : decode cX8_takeOver 34 = .ok (.aload_n 1, 1) := by decide +kernel
theorem dX8_takeOver_35 : decode cX8_takeOver 35 = .ok (.getfield 21, 3) := by decide +kernel
theorem dX8_takeOver_38 : decode cX8_takeOver 38 = .ok (.putfield 21, 3) := by decide +kernel
theorem dX8_takeOver_41 : decode cX8_takeOver 41 = .ok (.return_, 1) := by decide +kernel
theorem dX8_leftOf_0 : decode cX8_leftOf 0 = .ok (.aload_n 0, 1) := by decide +kernel
theorem dX8_leftOf_1 : decode cX8_leftOf 1 = .ok (.getfield 9, 3) := by decide +kernel
theorem dX8_leftOf_4 : decode cX8_leftOf 4 = .ok (.iload_n 1, 1) := by decide +kernel
theorem dX8_leftOf_5 : decode cX8_leftOf 5 = .ok (.invokestatic 33, 3) := by decide +kernel
theorem dX8_leftOf_8 : decode cX8_leftOf 8 = .ok (.ireturn, 1) := by decide +kernel
theorem dX8_rightOf_0 : decode cX8_rightOf 0 = .ok (.aload_n 0, 1) := by decide +kernel
theorem dX8_rightOf_1 : decode cX8_rightOf 1 = .ok (.getfield 15, 3) := by decide +kernel
theorem dX8_rightOf_4 : decode cX8_rightOf 4 = .ok (.iload_n 1, 1) := by decide +kernel
theorem dX8_rightOf_5 : decode cX8_rightOf 5 = .ok (.invokestatic 33, 3) := by decide +kernel
theorem dX8_rightOf_8 : decode cX8_rightOf 8 = .ok (.ireturn, 1) := by decide +kernel
theorem dX8_upperOf_0 : decode cX8_upperOf 0 = .ok (.aload_n 0, 1) := by decide +kernel
theorem dX8_upperOf_1 : decode cX8_upperOf 1 = .ok (.getfield 18, 3) := by decide +kernel
theorem dX8_upperOf_4 : decode cX8_upperOf 4 = .ok (.iload_n 1, 1) := by decide +kernel
theorem dX8_upperOf_5 : decode cX8_upperOf 5 = .ok (.invokestatic 33, 3) := by decide +kernel
theorem dX8_upperOf_8 : decode cX8_upperOf 8 = .ok (.ireturn, 1) := by decide +kernel
theorem dX8_headOf_0 : decode cX8_headOf 0 = .ok (.aload_n 0, 1) := by decide +kernel
theorem dX8_headOf_1 : decode cX8_headOf 1 = .ok (.getfield 18, 3) := by decide +kernel
theorem dX8_headOf_4 : decode cX8_headOf 4 = .ok (.iload_n 1, 1) := by decide +kernel
theorem dX8_headOf_5 : decode cX8_headOf 5 = .ok (.invokestatic 37, 3) := by decide +kernel
theorem dX8_headOf_8 : decode cX8_headOf 8 = .ok (.ireturn, 1) := by decide +kernel
theorem dX8_topOf_0 : decode cX8_topOf 0 = .ok (.aload_n 0, 1) := by decide +kernel
theorem dX8_topOf_1 : decode cX8_topOf 1 = .ok (.getfield 9, 3) := by decide +kernel
theorem dX8_topOf_4 : decode cX8_topOf 4 = .ok (.aload_n 0, 1) := by decide +kernel
theorem dX8_topOf_5 : decode cX8_topOf 5 = .ok (.iload_n 1, 1) := by decide +kernel
theorem dX8_topOf_6 : decode cX8_topOf 6 = .ok (.invokevirtual 40, 3) := by decide +kernel
theorem dX8_topOf_9 : decode cX8_topOf 9 = .ok (.invokestatic 37, 3) := by decide +kernel
theorem dX8_topOf_12 : decode cX8_topOf 12 = .ok (.ireturn, 1) := by decide +kernel
theorem dX8_ahead_0 : decode cX8_ahead 0 = .ok (.aload_n 0, 1) := by decide +kernel
theorem dX8_ahead_1 : decode cX8_ahead 1 = .ok (.aload_n 0, 1) := by decide +kernel
theorem dX8_ahead_2 : decode cX8_ahead 2 = .ok (.getfield 9, 3) := by decide +kernel
theorem dX8_ahead_5 : decode cX8_ahead 5 = .ok (.aload_n 0, 1) := by decide +kernel
theorem dX8_ahead_6 : decode cX8_ahead 6 = .ok (.getfield 15, 3) := by decide +kernel
theorem dX8_ahead_9 : decode cX8_ahead 9 = .ok (.iload_n 1, 1) := by decide +kernel
theorem dX8_ahead_10 : decode cX8_ahead 10 = .ok (.invokevirtual 44, 3) := by decide +kernel
theorem dX8_ahead_13 : decode cX8_ahead 13 = .ok (.ireturn, 1) := by decide +kernel
theorem dX8_behind_0 : decode cX8_behind 0 = .ok (.aload_n 0, 1) := by decide +kernel
theorem dX8_behind_1 : decode cX8_behind 1 = .ok (.aload_n 0, 1) := by decide +kernel
theorem dX8_behind_2 : decode cX8_behind 2 = .ok (.getfield 15, 3) := by decide +kernel
theorem dX8_behind_5 : decode cX8_behind 5 = .ok (.aload_n 0, 1) := by decide +kernel
theorem dX8_behind_6 : decode cX8_behind 6 = .ok (.getfield 9, 3) := by decide +kernel
theorem dX8_behind_9 : decode cX8_behind 9 = .ok (.iload_n 1, 1) := by decide +kernel
theorem dX8_behind_10 : decode cX8_behind 10 = .ok (.invokevirtual 44, 3) := by decide +kernel
theorem dX8_behind_13 : decode cX8_behind 13 = .ok (.ireturn, 1) := by decide +kernel
theorem dX8_neighbour_0 : decode cX8_neighbour 0 = .ok (.aload_n 1, 1) := by decide +kernel
theorem dX8_neighbour_1 : decode cX8_neighbour 1 = .ok (.iload_n 3, 1) := by decide +kernel
theorem dX8_neighbour_2 : decode cX8_neighbour 2 = .ok (.invokestatic 33, 3) := by decide +kernel
theorem dX8_neighbour_5 : decode cX8_neighbour 5 = .ok (.istore 4, 2) := by decide +kernel
theorem dX8_neighbour_7 : decode cX8_neighbour 7 = .ok (.iload 4, 2) := by decide +kernel
theorem dX8_neighbour_9 : decode cX8_neighbour 9 = .ok (.ifCond .lt 10, 3) := by decide +kernel
theorem dX8_neighbour_12 : decode cX8_neighbour 12 = .ok (.aload_n 2, 1) := by decide +kernel
theorem dX8_neighbour_13 : decode cX8_neighbour 13 = .ok (.iload 4, 2) := by decide +kernel
theorem dX8_neighbour_15 : decode cX8_neighbour 15 = .ok (.invokestatic 37, 3) := by decide +kernel
theorem dX8_neighbour_18 : decode cX8_neighbour 18 = .ok (.ireturn, 1) := by decide +kernel
theorem dX8_neighbour_19 : decode cX8_neighbour 19 = .ok (.iload_n 3, 1) := by decide +kernel
theorem dX8_neighbour_20 : decode cX8_neighbour 20 = .ok (.istore 5, 2) := by decide +kernel
theorem dX8_neighbour_22 : decode cX8_neighbour 22 = .ok (.aload_n 0, 1) := by decide +kernel
theorem dX8_neighbour_23 : decode cX8_neighbour 23 = .ok (.iload 5, 2) := by decide +kernel
theorem dX8_neighbour_25 : decode cX8_neighbour 25 = .ok (.invokevirtual 48, 3) := by decide +kernel
theorem dX8_neighbour_28 : decode cX8_neighbour 28 = .ok (.istore 6, 2) := by decide +kernel
theorem dX8_neighbour_30 : decode cX8_neighbour 30 = .ok (.iconst 0, 1) := by decide +kernel
theorem dX8_neighbour_31 : decode cX8_neighbour 31 = .ok (.istore 7, 2) := by decide +kernel
theorem dX8_neighbour_33 : decode cX8_neighbour 33 = .ok (.iload 7, 2) := by decide +kernel
theorem dX8_neighbour_35 : decode cX8_neighbour 35 = .ok (.bipush 16, 2) := by decide +kernel
theorem dX8_neighbour_37 : decode cX8_neighbour 37 = .ok (.if_icmp .ge 37, 3) := by decide +kernel
theorem dX8_neighbour_40 : decode cX8_neighbour 40 = .ok (.iload 6, 2) := by decide +kernel
theorem dX8_neighbour_42 : decode cX8_neighbour 42 = .ok (.ifCond .lt 32, 3) := by decide +kernel
theorem dX8_neighbour_45 : decode cX8_neighbour 45 = .ok (.aload_n 1, 1) := by decide +kernel
theorem dX8_neighbour_46 : decode cX8_neighbour 46 = .ok (.iload 6, 2) := by decide +kernel
theorem dX8_neighbour_48 : decode cX8_neighbour 48 = .ok (.invokestatic 33, 3) := by decide +kernel
theorem dX8_neighbour_51 : decode cX8_neighbour 51 = .ok (.iload 5, 2) := by decide +kernel
theorem dX8_neighbour_53 : decode cX8_neighbour 53 = .ok (.if_icmp .ne 21, 3) := by decide +kernel
theorem dX8_neighbour_56 : decode cX8_neighbour 56 = .ok (.iload 6, 2) := by decide +kernel
theorem dX8_neighbour_58 : decode cX8_neighbour 58 = .ok (.istore 5, 2) := by decide +kernel
theorem dX8_neighbour_60 : decode cX8_neighbour 60 = .ok (.aload_n 0, 1) := by decide +kernel
theorem dX8_neighbour_61 : decode cX8_neighbour 61 = .ok (.iload 5, 2) := by decide +kernel
theorem dX8_neighbour_63 : decode cX8_neighbour 63 = .ok (.invokevirtual 48, 3) := by decide +kernel
theorem dX8_neighbour_66 : decode cX8_neighbour 66 = .ok (.istore 6, 2) := by decide +kernel
theorem dX8_neighbour_68 : decode cX8_neighbour 68 = .ok (.iinc 7 1, 3) := by decide +kernel
theorem dX8_neighbour_71 : decode cX8_neighbour 71 = .ok (.goto (-38), 3) := by decide +kernel
theorem dX8_neighbour_74 : decode cX8_neighbour 74 = .ok (.iload 6, 2) := by decide +kernel
theorem dX8_neighbour_76 : decode cX8_neighbour 76 = .ok (.ireturn, 1) := by decide +kernel
theorem dX8_countAbove_0 : decode cX8_countAbove 0 = .ok (.aload_n 0, 1) := by decide +kernel
theorem dX8_countAbove_1 : decode cX8_countAbove 1 = .ok (.getfield 18, 3) := by decide +kernel
theorem dX8_countAbove_4 : decode cX8_countAbove 4 = .ok (.iload_n 1, 1) := by decide +kernel
theorem dX8_countAbove_5 : decode cX8_countAbove 5 = .ok (.invokestatic 51, 3) := by decide +kernel
theorem dX8_countAbove_8 : decode cX8_countAbove 8 = .ok (.ireturn, 1) := by decide +kernel
theorem dX8_isAtOrBelow_0 : decode cX8_isAtOrBelow 0 = .ok (.aload_n 0, 1) := by decide +kernel
theorem dX8_isAtOrBelow_1 : decode cX8_isAtOrBelow 1 = .ok (.getfield 18, 3) := by decide +kernel
theorem dX8_isAtOrBelow_4 : decode cX8_isAtOrBelow 4 = .ok (.iload_n 1, 1) := by decide +kernel
theorem dX8_isAtOrBelow_5 : decode cX8_isAtOrBelow 5 = .ok (.iload_n 2, 1) := by decide +kernel
theorem dX8_isAtOrBelow_6 : decode cX8_isAtOrBelow 6 = .ok (.invokestatic 54, 3) := by decide +kernel
theorem dX8_isAtOrBelow_9 : decode cX8_isAtOrBelow 9 = .ok (.ireturn, 1) := by decide +kernel
theorem dX8_countBelow_0 : decode cX8_countBelow 0 = .ok (.iconst 0, 1) := by decide +kernel
theorem dX8_countBelow_1 : decode cX8_countBelow 1 = .ok (.istore_n 2, 1) := by decide +kernel
theorem dX8_countBelow_2 : decode cX8_countBelow 2 = .ok (.iconst 0, 1) := by decide +kernel
theorem dX8_countBelow_3 : decode cX8_countBelow 3 = .ok (.istore_n 3, 1) := by decide +kernel
theorem dX8_countBelow_4 : decode cX8_countBelow 4 = .ok (.iload_n 3, 1) := by decide +kernel
theorem dX8_countBelow_5 : decode cX8_countBelow 5 = .ok (.bipush 16, 2) := by decide +kernel
theorem dX8_countBelow_7 : decode cX8_countBelow 7 = .ok (.if_icmp .ge 26, 3) := by decide +kernel
theorem dX8_countBelow_10 : decode cX8_countBelow 10 = .ok (.iload_n 2, 1) := by decide +kernel
theorem dX8_countBelow_11 : decode cX8_countBelow 11 = .ok (.aload_n 0, 1) := by decide +kernel
theorem dX8_countBelow_12 : decode cX8_countBelow 12 = .ok (.iload_n 3, 1) := by decide +kernel
theorem dX8_countBelow_13 : decode cX8_countBelow 13 = .ok (.iload_n 1, 1) := by decide +kernel
theorem dX8_countBelow_14 : decode cX8_countBelow 14 = .ok (.invokevirtual 58, 3) := by decide +kernel
theorem dX8_countBelow_17 : decode cX8_countBelow 17 = .ok (.ifCond .eq 7, 3) := by decide +kernel
theorem dX8_countBelow_20 : decode cX8_countBelow 20 = .ok (.iconst 1, 1) := by decide +kernel
theorem dX8_countBelow_21 : decode cX8_countBelow 21 = .ok (.goto 4, 3) := by decide +kernel
theorem dX8_countBelow_24 : decode cX8_countBelow 24 = .ok (.iconst 0, 1) := by decide +kernel
theorem dX8_countBelow_25 : decode cX8_countBelow 25 = .ok (.iadd, 1) := by decide +kernel
theorem dX8_countBelow_26 : decode cX8_countBelow 26 = .ok (.istore_n 2, 1) := by decide +kernel
theorem dX8_countBelow_27 : decode cX8_countBelow 27 = .ok (.iinc 3 1, 3) := by decide +kernel
theorem dX8_countBelow_30 : decode cX8_countBelow 30 = .ok (.goto (-26), 3) := by decide +kernel
theorem dX8_countBelow_33 : decode cX8_countBelow 33 = .ok (.iload_n 2, 1) := by decide +kernel
theorem dX8_countBelow_34 : decode cX8_countBelow 34 = .ok (.ireturn, 1) := by decide +kernel
theorem dX8_countAhead_0 : decode cX8_countAhead 0 = .ok (.iconst 0, 1) := by decide +kernel
theorem dX8_countAhead_1 : decode cX8_countAhead 1 = .ok (.istore_n 2, 1) := by decide +kernel
theorem dX8_countAhead_2 : decode cX8_countAhead 2 = .ok (.aload_n 0, 1) := by decide +kernel
theorem dX8_countAhead_3 : decode cX8_countAhead 3 = .ok (.iload_n 1, 1) := by decide +kernel
theorem dX8_countAhead_4 : decode cX8_countAhead 4 = .ok (.invokevirtual 62, 3) := by decide +kernel
theorem dX8_countAhead_7 : decode cX8_countAhead 7 = .ok (.istore_n 3, 1) := by decide +kernel
theorem dX8_countAhead_8 : decode cX8_countAhead 8 = .ok (.iload_n 2, 1) := by decide +kernel
theorem dX8_countAhead_9 : decode cX8_countAhead 9 = .ok (.bipush 16, 2) := by decide +kernel
theorem dX8_countAhead_11 : decode cX8_countAhead 11 = .ok (.if_icmp .ge 19, 3) := by decide +kernel
theorem dX8_countAhead_14 : decode cX8_countAhead 14 = .ok (.iload_n 3, 1) := by decide +kernel
theorem dX8_countAhead_15 : decode cX8_countAhead 15 = .ok (.ifCond .lt 15, 3) := by decide +kernel
theorem dX8_countAhead_18 : decode cX8_countAhead 18 = .ok (.iinc 2 1, 3) := by decide +kernel
theorem dX8_countAhead_21 : decode cX8_countAhead 21 = .ok (.aload_n 0, 1) := by decide +kernel
theorem dX8_countAhead_22 : decode cX8_countAhead 22 = .ok (.iload_n 3, 1) := by decide +kernel
theorem dX8_countAhead_23 : decode cX8_countAhead 23 = .ok (.invokevirtual 62, 3) := by decide +kernel
theorem dX8_countAhead_26 : decode cX8_countAhead 26 = .ok (.istore_n 3, 1) := by decide +kernel
theorem dX8_countAhead_27 : decode cX8_countAhead 27 = .ok (.goto (-19), 3) := by decide +kernel
theorem dX8_countAhead_30 : decode cX8_countAhead 30 = .ok (.iload_n 2, 1) := by decide +kernel
theorem dX8_countAhead_31 : decode cX8_countAhead 31 = .ok (.ireturn, 1) := by decide +kernel
theorem dX8_blockAt_0 : decode cX8_blockAt 0 = .ok (.iload_n 2, 1) := by decide +kernel
theorem dX8_blockAt_1 : decode cX8_blockAt 1 = .ok (.ifCond .lt 9, 3) := by decide +kernel
theorem dX8_blockAt_4 : decode cX8_blockAt 4 = .ok (.iload_n 2, 1) := by decide +kernel
theorem dX8_blockAt_5 : decode cX8_blockAt 5 = .ok (.bipush 16, 2) := by decide +kernel
theorem dX8_blockAt_7 : decode cX8_blockAt 7 = .ok (.if_icmp .lt 5, 3) := by decide +kernel
theorem dX8_blockAt_10 : decode cX8_blockAt 10 = .ok (.iconst (-1), 1) := by decide +kernel
theorem dX8_blockAt_11 : decode cX8_blockAt 11 = .ok (.ireturn, 1) := by decide +kernel
theorem dX8_blockAt_12 : decode cX8_blockAt 12 = .ok (.aload_n 0, 1) := by decide +kernel
theorem dX8_blockAt_13 : decode cX8_blockAt 13 = .ok (.iload_n 1, 1) := by decide +kernel
theorem dX8_blockAt_14 : decode cX8_blockAt 14 = .ok (.invokevirtual 65, 3) := by decide +kernel
theorem dX8_blockAt_17 : decode cX8_blockAt 17 = .ok (.istore_n 3, 1) := by decide +kernel
theorem dX8_blockAt_18 : decode cX8_blockAt 18 = .ok (.iconst 0, 1) := by decide +kernel
theorem dX8_blockAt_19 : decode cX8_blockAt 19 = .ok (.istore 4, 2) := by decide +kernel
theorem dX8_blockAt_21 : decode cX8_blockAt 21 = .ok (.iload 4, 2) := by decide +kernel
theorem dX8_blockAt_23 : decode cX8_blockAt 23 = .ok (.iload_n 2, 1) := by decide +kernel
theorem dX8_blockAt_24 : decode cX8_blockAt 24 = .ok (.if_icmp .ge 19, 3) := by decide +kernel
theorem dX8_blockAt_27 : decode cX8_blockAt 27 = .ok (.iload_n 3, 1) := by decide +kernel
theorem dX8_blockAt_28 : decode cX8_blockAt 28 = .ok (.ifCond .lt 15, 3) := by decide +kernel
theorem dX8_blockAt_31 : decode cX8_blockAt 31 = .ok (.aload_n 0, 1) := by decide +kernel
theorem dX8_blockAt_32 : decode cX8_blockAt 32 = .ok (.iload_n 3, 1) := by decide +kernel
theorem dX8_blockAt_33 : decode cX8_blockAt 33 = .ok (.invokevirtual 68, 3) := by decide +kernel
theorem dX8_blockAt_36 : decode cX8_blockAt 36 = .ok (.istore_n 3, 1) := by decide +kernel
theorem dX8_blockAt_37 : decode cX8_blockAt 37 = .ok (.iinc 4 1, 3) := by decide +kernel
theorem dX8_blockAt_40 : decode cX8_blockAt 40 = .ok (.goto (-19), 3) := by decide +kernel
theorem dX8_blockAt_43 : decode cX8_blockAt 43 = .ok (.iload_n 3, 1) := by decide +kernel
theorem dX8_blockAt_44 : decode cX8_blockAt 44 = .ok (.ireturn, 1) := by decide +kernel
theorem dX8_turn_0 : decode cX8_turn 0 = .ok (.aload_n 0, 1) := by decide +kernel
theorem dX8_turn_1 : decode cX8_turn 1 = .ok (.iload_n 1, 1) := by decide +kernel
theorem dX8_turn_2 : decode cX8_turn 2 = .ok (.invokevirtual 48, 3) := by decide +kernel
theorem dX8_turn_5 : decode cX8_turn 5 = .ok (.istore_n 2, 1) := by decide +kernel
theorem dX8_turn_6 : decode cX8_turn 6 = .ok (.iload_n 2, 1) := by decide +kernel
theorem dX8_turn_7 : decode cX8_turn 7 = .ok (.ifCond .ge 4, 3) := by decide +kernel
theorem dX8_turn_10 : decode cX8_turn 10 = .ok (.return_, 1) := by decide +kernel
theorem dX8_turn_11 : decode cX8_turn 11 = .ok (.aload_n 0, 1) := by decide +kernel
theorem dX8_turn_12 : decode cX8_turn 12 = .ok (.iload_n 2, 1) := by decide +kernel
theorem dX8_turn_13 : decode cX8_turn 13 = .ok (.invokevirtual 48, 3) := by decide +kernel
theorem dX8_turn_16 : decode cX8_turn 16 = .ok (.istore_n 3, 1) := by decide +kernel
theorem dX8_turn_17 : decode cX8_turn 17 = .ok (.aload_n 0, 1) := by decide +kernel
theorem dX8_turn_18 : decode cX8_turn 18 = .ok (.iload_n 2, 1) := by decide +kernel
theorem dX8_turn_19 : decode cX8_turn 19 = .ok (.invokevirtual 71, 3) := by decide +kernel
theorem dX8_turn_22 : decode cX8_turn 22 = .ok (.iload_n 1, 1) := by decide +kernel
theorem dX8_turn_23 : decode cX8_turn 23 = .ok (.if_icmp .ne 7, 3) := by decide +kernel
theorem dX8_turn_26 : decode cX8_turn 26 = .ok (.iconst 1, 1) := by decide +kernel
theorem dX8_turn_27 : decode cX8_turn 27 = .ok (.goto 4, 3) := by decide +kernel
theorem dX8_turn_30 : decode cX8_turn 30 = .ok (.iconst 0, 1) := by decide +kernel
theorem dX8_turn_31 : decode cX8_turn 31 = .ok (.istore 4, 2) := by decide +kernel
theorem dX8_turn_33 : decode cX8_turn 33 = .ok (.iload 4, 2) := by decide +kernel
theorem dX8_turn_35 : decode cX8_turn 35 = .ok (.ifCond .eq 10, 3) := by decide +kernel
theorem dX8_turn_38 : decode cX8_turn 38 = .ok (.aload_n 0, 1) := by decide +kernel
theorem dX8_turn_39 : decode cX8_turn 39 = .ok (.getfield 9, 3) := by decide +kernel
theorem dX8_turn_42 : decode cX8_turn 42 = .ok (.goto 7, 3) := by decide +kernel
theorem dX8_turn_45 : decode cX8_turn 45 = .ok (.aload_n 0, 1) := by decide +kernel
theorem dX8_turn_46 : decode cX8_turn 46 = .ok (.getfield 15, 3) := by decide +kernel
theorem dX8_turn_49 : decode cX8_turn 49 = .ok (.astore 5, 2) := by decide +kernel
theorem dX8_turn_51 : decode cX8_turn 51 = .ok (.iload 4, 2) := by decide +kernel
theorem dX8_turn_53 : decode cX8_turn 53 = .ok (.ifCond .eq 10, 3) := by decide +kernel
theorem dX8_turn_56 : decode cX8_turn 56 = .ok (.aload_n 0, 1) := by decide +kernel
theorem dX8_turn_57 : decode cX8_turn 57 = .ok (.getfield 15, 3) := by decide +kernel
theorem dX8_turn_60 : decode cX8_turn 60 = .ok (.goto 7, 3) := by decide +kernel
theorem dX8_turn_63 : decode cX8_turn 63 = .ok (.aload_n 0, 1) := by decide +kernel
theorem dX8_turn_64 : decode cX8_turn 64 = .ok (.getfield 9, 3) := by decide +kernel
theorem dX8_turn_67 : decode cX8_turn 67 = .ok (.astore 6, 2) := by decide +kernel
theorem dX8_turn_69 : decode cX8_turn 69 = .ok (.aload_n 0, 1) := by decide +kernel
theorem dX8_turn_70 : decode cX8_turn 70 = .ok (.aload 5, 2) := by decide +kernel
theorem dX8_turn_72 : decode cX8_turn 72 = .ok (.iload_n 2, 1) := by decide +kernel
theorem dX8_turn_73 : decode cX8_turn 73 = .ok (.aload 6, 2) := by decide +kernel
theorem dX8_turn_75 : decode cX8_turn 75 = .ok (.iload_n 1, 1) := by decide +kernel
theorem dX8_turn_76 : decode cX8_turn 76 = .ok (.invokestatic 33, 3) := by decide +kernel
theorem dX8_turn_79 : decode cX8_turn 79 = .ok (.invokevirtual 74, 3) := by decide +kernel
theorem dX8_turn_82 : decode cX8_turn 82 = .ok (.aload_n 0, 1) := by decide +kernel
theorem dX8_turn_83 : decode cX8_turn 83 = .ok (.aload 6, 2) := by decide +kernel
theorem dX8_turn_85 : decode cX8_turn 85 = .ok (.iload_n 1, 1) := by decide +kernel
theorem dX8_turn_86 : decode cX8_turn 86 = .ok (.iload_n 2, 1) := by decide +kernel
theorem dX8_turn_87 : decode cX8_turn 87 = .ok (.invokevirtual 74, 3) := by decide +kernel
theorem dX8_turn_90 : decode cX8_turn 90 = .ok (.aload_n 0, 1) := by decide +kernel
theorem dX8_turn_91 : decode cX8_turn 91 = .ok (.aload_n 0, 1) := by decide +kernel
theorem dX8_turn_92 : decode cX8_turn 92 = .ok (.iload_n 3, 1) := by decide +kernel
theorem dX8_turn_93 : decode cX8_turn 93 = .ok (.invokevirtual 71, 3) := by decide +kernel
theorem dX8_turn_96 : decode cX8_turn 96 = .ok (.iload_n 2, 1) := by decide +kernel
theorem dX8_turn_97 : decode cX8_turn 97 = .ok (.if_icmp .ne 10, 3) := by decide +kernel
theorem dX8_turn_100 : decode cX8_turn 100 = .ok (.aload_n 0, 1) := by decide +kernel
theorem dX8_turn_101 : decode cX8_turn 101 = .ok (.getfield 9, 3) := by decide +kernel
theorem dX8_turn_104 : decode cX8_turn 104 = .ok (.goto 7, 3) := by decide +kernel
theorem dX8_turn_107 : decode cX8_turn 107 = .ok (.aload_n 0, 1) := by decide +kernel
theorem dX8_turn_108 : decode cX8_turn 108 = .ok (.getfield 15, 3) := by decide +kernel
theorem dX8_turn_111 : decode cX8_turn 111 = .ok (.iload_n 3, 1) := by decide +kernel
theorem dX8_turn_112 : decode cX8_turn 112 = .ok (.iload_n 1, 1) := by decide +kernel
theorem dX8_turn_113 : decode cX8_turn 113 = .ok (.invokevirtual 74, 3) := by decide +kernel
theorem dX8_turn_116 : decode cX8_turn 116 = .ok (.aload_n 0, 1) := by decide +kernel
theorem dX8_turn_117 : decode cX8_turn 117 = .ok (.dup, 1) := by decide +kernel
theorem dX8_turn_118 : decode cX8_turn 118 = .ok (.getfield 21, 3) := by decide +kernel
theorem dX8_turn_121 : decode cX8_turn 121 = .ok (.iconst 1, 1) := by decide +kernel
theorem dX8_turn_122 : decode cX8_turn 122 = .ok (.iadd, 1) := by decide +kernel
theorem dX8_turn_123 : decode cX8_turn 123 = .ok (.putfield 21, 3) := by decide +kernel
theorem dX8_turn_126 : decode cX8_turn 126 = .ok (.return_, 1) := by decide +kernel
theorem dX8_link_0 : decode cX8_link 0 = .ok (.aload_n 1, 1) := by decide +kernel
theorem dX8_link_1 : decode cX8_link 1 = .ok (.iload_n 2, 1) := by decide +kernel
theorem dX8_link_2 : decode cX8_link 2 = .ok (.iload_n 3, 1) := by decide +kernel
theorem dX8_link_3 : decode cX8_link 3 = .ok (.invokestatic 78, 3) := by decide +kernel
theorem dX8_link_6 : decode cX8_link 6 = .ok (.aload_n 0, 1) := by decide +kernel
theorem dX8_link_7 : decode cX8_link 7 = .ok (.getfield 18, 3) := by decide +kernel
theorem dX8_link_10 : decode cX8_link 10 = .ok (.iload_n 3, 1) := by decide +kernel
theorem dX8_link_11 : decode cX8_link 11 = .ok (.iload_n 2, 1) := by decide +kernel
theorem dX8_link_12 : decode cX8_link 12 = .ok (.invokestatic 78, 3) := by decide +kernel
theorem dX8_link_15 : decode cX8_link 15 = .ok (.return_, 1) := by decide +kernel
theorem dX8_splay_0 : decode cX8_splay 0 = .ok (.iconst 0, 1) := by decide +kernel
theorem dX8_splay_1 : decode cX8_splay 1 = .ok (.istore_n 2, 1) := by decide +kernel
theorem dX8_splay_2 : decode cX8_splay 2 = .ok (.iload_n 2, 1) := by decide +kernel
theorem dX8_splay_3 : decode cX8_splay 3 = .ok (.bipush 16, 2) := by decide +kernel
theorem dX8_splay_5 : decode cX8_splay 5 = .ok (.if_icmp .ge 93, 3) := by decide +kernel
theorem dX8_splay_8 : decode cX8_splay 8 = .ok (.aload_n 0, 1) := by decide +kernel
theorem dX8_splay_9 : decode cX8_splay 9 = .ok (.iload_n 1, 1) := by decide +kernel
theorem dX8_splay_10 : decode cX8_splay 10 = .ok (.invokevirtual 48, 3) := by decide +kernel
theorem dX8_splay_13 : decode cX8_splay 13 = .ok (.ifCond .lt 85, 3) := by decide +kernel
theorem dX8_splay_16 : decode cX8_splay 16 = .ok (.aload_n 0, 1) := by decide +kernel
theorem dX8_splay_17 : decode cX8_splay 17 = .ok (.iload_n 1, 1) := by decide +kernel
theorem dX8_splay_18 : decode cX8_splay 18 = .ok (.invokevirtual 48, 3) := by decide +kernel
theorem dX8_splay_21 : decode cX8_splay 21 = .ok (.istore_n 3, 1) := by decide +kernel
theorem dX8_splay_22 : decode cX8_splay 22 = .ok (.aload_n 0, 1) := by decide +kernel
theorem dX8_splay_23 : decode cX8_splay 23 = .ok (.iload_n 3, 1) := by decide +kernel
theorem dX8_splay_24 : decode cX8_splay 24 = .ok (.invokevirtual 48, 3) := by decide +kernel
theorem dX8_splay_27 : decode cX8_splay 27 = .ok (.istore 4, 2) := by decide +kernel
theorem dX8_splay_29 : decode cX8_splay 29 = .ok (.iload 4, 2) := by decide +kernel
theorem dX8_splay_31 : decode cX8_splay 31 = .ok (.ifCond .lt 56, 3) := by decide +kernel
theorem dX8_splay_34 : decode cX8_splay 34 = .ok (.aload_n 0, 1) := by decide +kernel
theorem dX8_splay_35 : decode cX8_splay 35 = .ok (.iload_n 3, 1) := by decide +kernel
theorem dX8_splay_36 : decode cX8_splay 36 = .ok (.invokevirtual 71, 3) := by decide +kernel
theorem dX8_splay_39 : decode cX8_splay 39 = .ok (.iload_n 1, 1) := by decide +kernel
theorem dX8_splay_40 : decode cX8_splay 40 = .ok (.if_icmp .ne 7, 3) := by decide +kernel
theorem dX8_splay_43 : decode cX8_splay 43 = .ok (.iconst 1, 1) := by decide +kernel
theorem dX8_splay_44 : decode cX8_splay 44 = .ok (.goto 4, 3) := by decide +kernel
theorem dX8_splay_47 : decode cX8_splay 47 = .ok (.iconst 0, 1) := by decide +kernel
theorem dX8_splay_48 : decode cX8_splay 48 = .ok (.aload_n 0, 1) := by decide +kernel
theorem dX8_splay_49 : decode cX8_splay 49 = .ok (.iload 4, 2) := by decide +kernel
theorem dX8_splay_51 : decode cX8_splay 51 = .ok (.invokevirtual 71, 3) := by decide +kernel
theorem dX8_splay_54 : decode cX8_splay 54 = .ok (.iload_n 3, 1) := by decide +kernel
theorem dX8_splay_55 : decode cX8_splay 55 = .ok (.if_icmp .ne 7, 3) := by decide +kernel
theorem dX8_splay_58 : decode cX8_splay 58 = .ok (.iconst 1, 1) := by decide +kernel
theorem dX8_splay_59 : decode cX8_splay 59 = .ok (.goto 4, 3) := by decide +kernel
theorem dX8_splay_62 : decode cX8_splay 62 = .ok (.iconst 0, 1) := by decide +kernel
theorem dX8_splay_63 : decode cX8_splay 63 = .ok (.if_icmp .ne 7, 3) := by decide +kernel
theorem dX8_splay_66 : decode cX8_splay 66 = .ok (.iconst 1, 1) := by decide +kernel
theorem dX8_splay_67 : decode cX8_splay 67 = .ok (.goto 4, 3) := by decide +kernel
theorem dX8_splay_70 : decode cX8_splay 70 = .ok (.iconst 0, 1) := by decide +kernel
theorem dX8_splay_71 : decode cX8_splay 71 = .ok (.istore 5, 2) := by decide +kernel
theorem dX8_splay_73 : decode cX8_splay 73 = .ok (.aload_n 0, 1) := by decide +kernel
theorem dX8_splay_74 : decode cX8_splay 74 = .ok (.iload 5, 2) := by decide +kernel
theorem dX8_splay_76 : decode cX8_splay 76 = .ok (.ifCond .eq 7, 3) := by decide +kernel
theorem dX8_splay_79 : decode cX8_splay 79 = .ok (.iload_n 3, 1) := by decide +kernel
theorem dX8_splay_80 : decode cX8_splay 80 = .ok (.goto 4, 3) := by decide +kernel
theorem dX8_splay_83 : decode cX8_splay 83 = .ok (.iload_n 1, 1) := by decide +kernel
theorem dX8_splay_84 : decode cX8_splay 84 = .ok (.invokevirtual 81, 3) := by decide +kernel
theorem dX8_splay_87 : decode cX8_splay 87 = .ok (.aload_n 0, 1) := by decide +kernel
theorem dX8_splay_88 : decode cX8_splay 88 = .ok (.iload_n 1, 1) := by decide +kernel
theorem dX8_splay_89 : decode cX8_splay 89 = .ok (.invokevirtual 81, 3) := by decide +kernel
theorem dX8_splay_92 : decode cX8_splay 92 = .ok (.iinc 2 1, 3) := by decide +kernel
theorem dX8_splay_95 : decode cX8_splay 95 = .ok (.goto (-93), 3) := by decide +kernel
theorem dX8_splay_98 : decode cX8_splay 98 = .ok (.return_, 1) := by decide +kernel
theorem dX8_takeLeftOff_0 : decode cX8_takeLeftOff 0 = .ok (.aload_n 0, 1) := by decide +kernel
theorem dX8_takeLeftOff_1 : decode cX8_takeLeftOff 1 = .ok (.getfield 18, 3) := by decide +kernel
theorem dX8_takeLeftOff_4 : decode cX8_takeLeftOff 4 = .ok (.aload_n 0, 1) := by decide +kernel
theorem dX8_takeLeftOff_5 : decode cX8_takeLeftOff 5 = .ok (.iload_n 1, 1) := by decide +kernel
theorem dX8_takeLeftOff_6 : decode cX8_takeLeftOff 6 = .ok (.invokevirtual 71, 3) := by decide +kernel
theorem dX8_takeLeftOff_9 : decode cX8_takeLeftOff 9 = .ok (.iconst (-1), 1) := by decide +kernel
theorem dX8_takeLeftOff_10 : decode cX8_takeLeftOff 10 = .ok (.invokestatic 78, 3) := by decide +kernel
theorem dX8_takeLeftOff_13 : decode cX8_takeLeftOff 13 = .ok (.aload_n 0, 1) := by decide +kernel
theorem dX8_takeLeftOff_14 : decode cX8_takeLeftOff 14 = .ok (.getfield 9, 3) := by decide +kernel
theorem dX8_takeLeftOff_17 : decode cX8_takeLeftOff 17 = .ok (.iload_n 1, 1) := by decide +kernel
theorem dX8_takeLeftOff_18 : decode cX8_takeLeftOff 18 = .ok (.iconst (-1), 1) := by decide +kernel
theorem dX8_takeLeftOff_19 : decode cX8_takeLeftOff 19 = .ok (.invokestatic 78, 3) := by decide +kernel
theorem dX8_takeLeftOff_22 : decode cX8_takeLeftOff 22 = .ok (.return_, 1) := by decide +kernel
theorem dX8_takeRightOff_0 : decode cX8_takeRightOff 0 = .ok (.aload_n 0, 1) := by decide +kernel
theorem dX8_takeRightOff_1 : decode cX8_takeRightOff 1 = .ok (.getfield 18, 3) := by decide +kernel
theorem dX8_takeRightOff_4 : decode cX8_takeRightOff 4 = .ok (.aload_n 0, 1) := by decide +kernel
theorem dX8_takeRightOff_5 : decode cX8_takeRightOff 5 = .ok (.iload_n 1, 1) := by decide +kernel
theorem dX8_takeRightOff_6 : decode cX8_takeRightOff 6 = .ok (.invokevirtual 85, 3) := by decide +kernel
theorem dX8_takeRightOff_9 : decode cX8_takeRightOff 9 = .ok (.iconst (-1), 1) := by decide +kernel
theorem dX8_takeRightOff_10 : decode cX8_takeRightOff 10 = .ok (.invokestatic 78, 3) := by decide +kernel
theorem dX8_takeRightOff_13 : decode cX8_takeRightOff 13 = .ok (.aload_n 0, 1) := by decide +kernel
theorem dX8_takeRightOff_14 : decode cX8_takeRightOff 14 = .ok (.getfield 15, 3) := by decide +kernel
theorem dX8_takeRightOff_17 : decode cX8_takeRightOff 17 = .ok (.iload_n 1, 1) := by decide +kernel
theorem dX8_takeRightOff_18 : decode cX8_takeRightOff 18 = .ok (.iconst (-1), 1) := by decide +kernel
theorem dX8_takeRightOff_19 : decode cX8_takeRightOff 19 = .ok (.invokestatic 78, 3) := by decide +kernel
theorem dX8_takeRightOff_22 : decode cX8_takeRightOff 22 = .ok (.return_, 1) := by decide +kernel
theorem dX8_joinRight_0 : decode cX8_joinRight 0 = .ok (.aload_n 0, 1) := by decide +kernel
theorem dX8_joinRight_1 : decode cX8_joinRight 1 = .ok (.aload_n 0, 1) := by decide +kernel
theorem dX8_joinRight_2 : decode cX8_joinRight 2 = .ok (.getfield 15, 3) := by decide +kernel
theorem dX8_joinRight_5 : decode cX8_joinRight 5 = .ok (.iload_n 1, 1) := by decide +kernel
theorem dX8_joinRight_6 : decode cX8_joinRight 6 = .ok (.iload_n 2, 1) := by decide +kernel
theorem dX8_joinRight_7 : decode cX8_joinRight 7 = .ok (.invokevirtual 74, 3) := by decide +kernel
theorem dX8_joinRight_10 : decode cX8_joinRight 10 = .ok (.return_, 1) := by decide +kernel
theorem dX10_init_0 : decode cX10_init 0 = .ok (.aload_n 0, 1) := by decide +kernel
theorem dX10_init_1 : decode cX10_init 1 = .ok (.invokespecial 1, 3) := by decide +kernel
theorem dX10_init_4 : decode cX10_init 4 = .ok (.aload_n 0, 1) := by decide +kernel
theorem dX10_init_5 : decode cX10_init 5 = .ok (.new 7, 3) := by decide +kernel
theorem dX10_init_8 : decode cX10_init 8 = .ok (.dup, 1) := by decide +kernel
theorem dX10_init_9 : decode cX10_init 9 = .ok (.invokespecial 9, 3) := by decide +kernel
theorem dX10_init_12 : decode cX10_init 12 = .ok (.putfield 10, 3) := by decide +kernel
theorem dX10_init_15 : decode cX10_init 15 = .ok (.aload_n 0, 1) := by decide +kernel
theorem dX10_init_16 : decode cX10_init 16 = .ok (.new 7, 3) := by decide +kernel
theorem dX10_init_19 : decode cX10_init 19 = .ok (.dup, 1) := by decide +kernel
theorem dX10_init_20 : decode cX10_init 20 = .ok (.invokespecial 9, 3) := by decide +kernel
theorem dX10_init_23 : decode cX10_init 23 = .ok (.putfield 16, 3) := by decide +kernel
theorem dX10_init_26 : decode cX10_init 26 = .ok (.aload_n 0, 1) := by decide +kernel
theorem dX10_init_27 : decode cX10_init 27 = .ok (.new 7, 3) := by decide +kernel
theorem dX10_init_30 : decode cX10_init 30 = .ok (.dup, 1) := by decide +kernel
theorem dX10_init_31 : decode cX10_init 31 = .ok (.invokespecial 9, 3) := by decide +kernel
theorem dX10_init_34 : decode cX10_init 34 = .ok (.putfield 19, 3) := by decide +kernel
theorem dX10_init_37 : decode cX10_init 37 = .ok (.aload_n 0, 1) := by decide +kernel
theorem dX10_init_38 : decode cX10_init 38 = .ok (.new 22, 3) := by decide +kernel
theorem dX10_init_41 : decode cX10_init 41 = .ok (.dup, 1) := by decide +kernel
theorem dX10_init_42 : decode cX10_init 42 = .ok (.invokespecial 24, 3) := by decide +kernel
theorem dX10_init_45 : decode cX10_init 45 = .ok (.putfield 25, 3) := by decide +kernel
theorem dX10_init_48 : decode cX10_init 48 = .ok (.aload_n 0, 1) := by decide +kernel
theorem dX10_init_49 : decode cX10_init 49 = .ok (.new 29, 3) := by decide +kernel
theorem dX10_init_52 : decode cX10_init 52 = .ok (.dup, 1) := by decide +kernel
theorem dX10_init_53 : decode cX10_init 53 = .ok (.invokespecial 31, 3) := by decide +kernel
theorem dX10_init_56 : decode cX10_init 56 = .ok (.putfield 32, 3) := by decide +kernel
theorem dX10_init_59 : decode cX10_init 59 = .ok (.aload_n 0, 1) := by decide +kernel
theorem dX10_init_60 : decode cX10_init 60 = .ok (.new 36, 3) := by decide +kernel
theorem dX10_init_63 : decode cX10_init 63 = .ok (.dup, 1) := by decide +kernel
theorem dX10_init_64 : decode cX10_init 64 = .ok (.invokespecial 38, 3) := by decide +kernel
theorem dX10_init_67 : decode cX10_init 67 = .ok (.putfield 39, 3) := by decide +kernel
theorem dX10_init_70 : decode cX10_init 70 = .ok (.aload_n 0, 1) := by decide +kernel
theorem dX10_init_71 : decode cX10_init 71 = .ok (.new 43, 3) := by decide +kernel
theorem dX10_init_74 : decode cX10_init 74 = .ok (.dup, 1) := by decide +kernel
theorem dX10_init_75 : decode cX10_init 75 = .ok (.invokespecial 45, 3) := by decide +kernel
theorem dX10_init_78 : decode cX10_init 78 = .ok (.putfield 46, 3) := by decide +kernel
theorem dX10_init_81 : decode cX10_init 81 = .ok (.aload_n 0, 1) := by decide +kernel
theorem dX10_init_82 : decode cX10_init 82 = .ok (.bipush (-4), 2) := by decide +kernel
theorem dX10_init_84 : decode cX10_init 84 = .ok (.putfield 50, 3) := by decide +kernel
theorem dX10_init_87 : decode cX10_init 87 = .ok (.aload_n 0, 1) := by decide +kernel
theorem dX10_init_88 : decode cX10_init 88 = .ok (.iconst 0, 1) := by decide +kernel
theorem dX10_init_89 : decode cX10_init 89 = .ok (.putfield 54, 3) := by decide +kernel
theorem dX10_init_92 : decode cX10_init 92 = .ok (.return_, 1) := by decide +kernel
theorem dX10_append_0 : decode cX10_append 0 = .ok (.aload_n 0, 1) := by decide +kernel
theorem dX10_append_1 : decode cX10_append 1 = .ok (.getfield 32, 3) := by decide +kernel
theorem dX10_append_4 : decode cX10_append 4 = .ok (.iload_n 1, 1) := by decide +kernel
theorem dX10_append_5 : decode cX10_append 5 = .ok (.invokevirtual 73, 3) := by decide +kernel
theorem dX10_append_8 : decode cX10_append 8 = .ok (.ireturn, 1) := by decide +kernel
theorem dX10_block_0 : decode cX10_block 0 = .ok (.aload_n 0, 1) := by decide +kernel
theorem dX10_block_1 : decode cX10_block 1 = .ok (.getfield 25, 3) := by decide +kernel
theorem dX10_block_4 : decode cX10_block 4 = .ok (.aload_n 0, 1) := by decide +kernel
theorem dX10_block_5 : decode cX10_block 5 = .ok (.getfield 10, 3) := by decide +kernel
theorem dX10_block_8 : decode cX10_block 8 = .ok (.invokevirtual 77, 3) := by decide +kernel
theorem dX10_block_11 : decode cX10_block 11 = .ok (.aload_n 0, 1) := by decide +kernel
theorem dX10_block_12 : decode cX10_block 12 = .ok (.aload_n 0, 1) := by decide +kernel
theorem dX10_block_13 : decode cX10_block 13 = .ok (.getfield 10, 3) := by decide +kernel
theorem dX10_block_16 : decode cX10_block 16 = .ok (.iload_n 1, 1) := by decide +kernel
theorem dX10_block_17 : decode cX10_block 17 = .ok (.aload_n 0, 1) := by decide +kernel
theorem dX10_block_18 : decode cX10_block 18 = .ok (.getfield 46, 3) := by decide +kernel
theorem dX10_block_21 : decode cX10_block 21 = .ok (.invokevirtual 81, 3) := by decide +kernel
theorem dX10_block_24 : decode cX10_block 24 = .ok (.invokevirtual 85, 3) := by decide +kernel
theorem dX10_block_27 : decode cX10_block 27 = .ok (.ireturn, 1) := by decide +kernel
theorem dX10_hang_0 : decode cX10_hang 0 = .ok (.aload_n 0, 1) := by decide +kernel
theorem dX10_hang_1 : decode cX10_hang 1 = .ok (.getfield 25, 3) := by decide +kernel
theorem dX10_hang_4 : decode cX10_hang 4 = .ok (.aload_n 0, 1) := by decide +kernel
theorem dX10_hang_5 : decode cX10_hang 5 = .ok (.getfield 10, 3) := by decide +kernel
theorem dX10_hang_8 : decode cX10_hang 8 = .ok (.invokevirtual 77, 3) := by decide +kernel
theorem dX10_hang_11 : decode cX10_hang 11 = .ok (.aload_n 0, 1) := by decide +kernel
theorem dX10_hang_12 : decode cX10_hang 12 = .ok (.aload_n 0, 1) := by decide +kernel
theorem dX10_hang_13 : decode cX10_hang 13 = .ok (.getfield 10, 3) := by decide +kernel
theorem dX10_hang_16 : decode cX10_hang 16 = .ok (.iload_n 1, 1) := by decide +kernel
theorem dX10_hang_17 : decode cX10_hang 17 = .ok (.iload_n 2, 1) := by decide +kernel
theorem dX10_hang_18 : decode cX10_hang 18 = .ok (.aload_n 0, 1) := by decide +kernel
theorem dX10_hang_19 : decode cX10_hang 19 = .ok (.getfield 46, 3) := by decide +kernel
theorem dX10_hang_22 : decode cX10_hang 22 = .ok (.invokevirtual 89, 3) := by decide +kernel
theorem dX10_hang_25 : decode cX10_hang 25 = .ok (.invokevirtual 85, 3) := by decide +kernel
theorem dX10_hang_28 : decode cX10_hang 28 = .ok (.ireturn, 1) := by decide +kernel
theorem dX10_cut_0 : decode cX10_cut 0 = .ok (.aload_n 0, 1) := by decide +kernel
theorem dX10_cut_1 : decode cX10_cut 1 = .ok (.getfield 25, 3) := by decide +kernel
theorem dX10_cut_4 : decode cX10_cut 4 = .ok (.aload_n 0, 1) := by decide +kernel
theorem dX10_cut_5 : decode cX10_cut 5 = .ok (.getfield 10, 3) := by decide +kernel
theorem dX10_cut_8 : decode cX10_cut 8 = .ok (.invokevirtual 77, 3) := by decide +kernel
theorem dX10_cut_11 : decode cX10_cut 11 = .ok (.aload_n 0, 1) := by decide +kernel
theorem dX10_cut_12 : decode cX10_cut 12 = .ok (.aload_n 0, 1) := by decide +kernel
theorem dX10_cut_13 : decode cX10_cut 13 = .ok (.getfield 10, 3) := by decide +kernel
theorem dX10_cut_16 : decode cX10_cut 16 = .ok (.iload_n 1, 1) := by decide +kernel
theorem dX10_cut_17 : decode cX10_cut 17 = .ok (.aload_n 0, 1) := by decide +kernel
theorem dX10_cut_18 : decode cX10_cut 18 = .ok (.getfield 46, 3) := by decide +kernel
theorem dX10_cut_21 : decode cX10_cut 21 = .ok (.invokevirtual 93, 3) := by decide +kernel
theorem dX10_cut_24 : decode cX10_cut 24 = .ok (.invokevirtual 85, 3) := by decide +kernel
theorem dX10_cut_27 : decode cX10_cut 27 = .ok (.ireturn, 1) := by decide +kernel
theorem dX10_walk_0 : decode cX10_walk 0 = .ok (.aload_n 0, 1) := by decide +kernel
theorem dX10_walk_1 : decode cX10_walk 1 = .ok (.getfield 25, 3) := by decide +kernel
theorem dX10_walk_4 : decode cX10_walk 4 = .ok (.aload_n 0, 1) := by decide +kernel
theorem dX10_walk_5 : decode cX10_walk 5 = .ok (.getfield 10, 3) := by decide +kernel
theorem dX10_walk_8 : decode cX10_walk 8 = .ok (.invokevirtual 77, 3) := by decide +kernel
theorem dX10_walk_11 : decode cX10_walk 11 = .ok (.aload_n 0, 1) := by decide +kernel
theorem dX10_walk_12 : decode cX10_walk 12 = .ok (.aload_n 0, 1) := by decide +kernel
theorem dX10_walk_13 : decode cX10_walk 13 = .ok (.getfield 10, 3) := by decide +kernel
theorem dX10_walk_16 : decode cX10_walk 16 = .ok (.iload_n 1, 1) := by decide +kernel
theorem dX10_walk_17 : decode cX10_walk 17 = .ok (.invokevirtual 96, 3) := by decide +kernel
theorem dX10_walk_20 : decode cX10_walk 20 = .ok (.invokevirtual 85, 3) := by decide +kernel
theorem dX10_walk_23 : decode cX10_walk 23 = .ok (.ireturn, 1) := by decide +kernel
theorem dX10_up_0 : decode cX10_up 0 = .ok (.aload_n 0, 1) := by decide +kernel
theorem dX10_up_1 : decode cX10_up 1 = .ok (.getfield 25, 3) := by decide +kernel
theorem dX10_up_4 : decode cX10_up 4 = .ok (.aload_n 0, 1) := by decide +kernel
theorem dX10_up_5 : decode cX10_up 5 = .ok (.getfield 10, 3) := by decide +kernel
theorem dX10_up_8 : decode cX10_up 8 = .ok (.invokevirtual 77, 3) := by decide +kernel
theorem dX10_up_11 : decode cX10_up 11 = .ok (.aload_n 0, 1) := by decide +kernel
theorem dX10_up_12 : decode cX10_up 12 = .ok (.aload_n 0, 1) := by decide +kernel
theorem dX10_up_13 : decode cX10_up 13 = .ok (.getfield 10, 3) := by decide +kernel
theorem dX10_up_16 : decode cX10_up 16 = .ok (.iload_n 1, 1) := by decide +kernel
theorem dX10_up_17 : decode cX10_up 17 = .ok (.invokevirtual 99, 3) := by decide +kernel
theorem dX10_up_20 : decode cX10_up 20 = .ok (.invokevirtual 85, 3) := by decide +kernel
theorem dX10_up_23 : decode cX10_up 23 = .ok (.ireturn, 1) := by decide +kernel
theorem dX10_weigh_0 : decode cX10_weigh 0 = .ok (.aload_n 0, 1) := by decide +kernel
theorem dX10_weigh_1 : decode cX10_weigh 1 = .ok (.getfield 25, 3) := by decide +kernel
theorem dX10_weigh_4 : decode cX10_weigh 4 = .ok (.aload_n 0, 1) := by decide +kernel
theorem dX10_weigh_5 : decode cX10_weigh 5 = .ok (.getfield 10, 3) := by decide +kernel
theorem dX10_weigh_8 : decode cX10_weigh 8 = .ok (.invokevirtual 77, 3) := by decide +kernel
theorem dX10_weigh_11 : decode cX10_weigh 11 = .ok (.aload_n 0, 1) := by decide +kernel
theorem dX10_weigh_12 : decode cX10_weigh 12 = .ok (.aload_n 0, 1) := by decide +kernel
theorem dX10_weigh_13 : decode cX10_weigh 13 = .ok (.getfield 10, 3) := by decide +kernel
theorem dX10_weigh_16 : decode cX10_weigh 16 = .ok (.iload_n 1, 1) := by decide +kernel
theorem dX10_weigh_17 : decode cX10_weigh 17 = .ok (.iload_n 2, 1) := by decide +kernel
theorem dX10_weigh_18 : decode cX10_weigh 18 = .ok (.aload_n 0, 1) := by decide +kernel
theorem dX10_weigh_19 : decode cX10_weigh 19 = .ok (.getfield 46, 3) := by decide +kernel
theorem dX10_weigh_22 : decode cX10_weigh 22 = .ok (.invokevirtual 102, 3) := by decide +kernel
theorem dX10_weigh_25 : decode cX10_weigh 25 = .ok (.invokevirtual 85, 3) := by decide +kernel
theorem dX10_weigh_28 : decode cX10_weigh 28 = .ok (.ireturn, 1) := by decide +kernel
theorem dX10_sledge_0 : decode cX10_sledge 0 = .ok (.aload_n 0, 1) := by decide +kernel
theorem dX10_sledge_1 : decode cX10_sledge 1 = .ok (.getfield 25, 3) := by decide +kernel
theorem dX10_sledge_4 : decode cX10_sledge 4 = .ok (.aload_n 0, 1) := by decide +kernel
theorem dX10_sledge_5 : decode cX10_sledge 5 = .ok (.getfield 10, 3) := by decide +kernel
theorem dX10_sledge_8 : decode cX10_sledge 8 = .ok (.invokevirtual 77, 3) := by decide +kernel
theorem dX10_sledge_11 : decode cX10_sledge 11 = .ok (.aload_n 0, 1) := by decide +kernel
theorem dX10_sledge_12 : decode cX10_sledge 12 = .ok (.aload_n 0, 1) := by decide +kernel
theorem dX10_sledge_13 : decode cX10_sledge 13 = .ok (.getfield 10, 3) := by decide +kernel
theorem dX10_sledge_16 : decode cX10_sledge 16 = .ok (.iload_n 1, 1) := by decide +kernel
theorem dX10_sledge_17 : decode cX10_sledge 17 = .ok (.aload_n 0, 1) := by decide +kernel
theorem dX10_sledge_18 : decode cX10_sledge 18 = .ok (.getfield 46, 3) := by decide +kernel
theorem dX10_sledge_21 : decode cX10_sledge 21 = .ok (.invokevirtual 105, 3) := by decide +kernel
theorem dX10_sledge_24 : decode cX10_sledge 24 = .ok (.invokevirtual 85, 3) := by decide +kernel
theorem dX10_sledge_27 : decode cX10_sledge 27 = .ok (.ireturn, 1) := by decide +kernel
theorem dX10_pull_0 : decode cX10_pull 0 = .ok (.aload_n 0, 1) := by decide +kernel
theorem dX10_pull_1 : decode cX10_pull 1 = .ok (.getfield 25, 3) := by decide +kernel
theorem dX10_pull_4 : decode cX10_pull 4 = .ok (.aload_n 0, 1) := by decide +kernel
theorem dX10_pull_5 : decode cX10_pull 5 = .ok (.getfield 10, 3) := by decide +kernel
theorem dX10_pull_8 : decode cX10_pull 8 = .ok (.invokevirtual 77, 3) := by decide +kernel
theorem dX10_pull_11 : decode cX10_pull 11 = .ok (.aload_n 0, 1) := by decide +kernel
theorem dX10_pull_12 : decode cX10_pull 12 = .ok (.aload_n 0, 1) := by decide +kernel
theorem dX10_pull_13 : decode cX10_pull 13 = .ok (.getfield 10, 3) := by decide +kernel
theorem dX10_pull_16 : decode cX10_pull 16 = .ok (.aload_n 0, 1) := by decide +kernel
theorem dX10_pull_17 : decode cX10_pull 17 = .ok (.getfield 46, 3) := by decide +kernel
theorem dX10_pull_20 : decode cX10_pull 20 = .ok (.invokevirtual 108, 3) := by decide +kernel
theorem dX10_pull_23 : decode cX10_pull 23 = .ok (.invokevirtual 85, 3) := by decide +kernel
theorem dX10_pull_26 : decode cX10_pull 26 = .ok (.ireturn, 1) := by decide +kernel
theorem dX10_read_0 : decode cX10_read 0 = .ok (.aload_n 0, 1) := by decide +kernel
theorem dX10_read_1 : decode cX10_read 1 = .ok (.getfield 32, 3) := by decide +kernel
theorem dX10_read_4 : decode cX10_read 4 = .ok (.invokevirtual 112, 3) := by decide +kernel
theorem dX10_read_7 : decode cX10_read 7 = .ok (.istore_n 1, 1) := by decide +kernel
theorem dX10_read_8 : decode cX10_read 8 = .ok (.aload_n 0, 1) := by decide +kernel
theorem dX10_read_9 : decode cX10_read 9 = .ok (.getfield 32, 3) := by decide +kernel
theorem dX10_read_12 : decode cX10_read 12 = .ok (.invokevirtual 116, 3) := by decide +kernel
theorem dX10_read_15 : decode cX10_read 15 = .ok (.iload_n 1, 1) := by decide +kernel
theorem dX10_read_16 : decode cX10_read 16 = .ok (.ifCond .ne 17, 3) := by decide +kernel
theorem dX10_read_19 : decode cX10_read 19 = .ok (.aload_n 0, 1) := by decide +kernel
theorem dX10_read_20 : decode cX10_read 20 = .ok (.aload_n 0, 1) := by decide +kernel
theorem dX10_read_21 : decode cX10_read 21 = .ok (.getfield 32, 3) := by decide +kernel
theorem dX10_read_24 : decode cX10_read 24 = .ok (.getfield 117, 3) := by decide +kernel
theorem dX10_read_27 : decode cX10_read 27 = .ok (.putfield 50, 3) := by decide +kernel
theorem dX10_read_30 : decode cX10_read 30 = .ok (.bipush (-2), 2) := by decide +kernel
theorem dX10_read_32 : decode cX10_read 32 = .ok (.ireturn, 1) := by decide +kernel
theorem dX10_read_33 : decode cX10_read 33 = .ok (.aload_n 0, 1) := by decide +kernel
theorem dX10_read_34 : decode cX10_read 34 = .ok (.getfield 25, 3) := by decide +kernel
theorem dX10_read_37 : decode cX10_read 37 = .ok (.aload_n 0, 1) := by decide +kernel
theorem dX10_read_38 : decode cX10_read 38 = .ok (.getfield 10, 3) := by decide +kernel
theorem dX10_read_41 : decode cX10_read 41 = .ok (.invokevirtual 77, 3) := by decide +kernel
theorem dX10_read_44 : decode cX10_read 44 = .ok (.iconst 0, 1) := by decide +kernel
theorem dX10_read_45 : decode cX10_read 45 = .ok (.istore_n 2, 1) := by decide +kernel
theorem dX10_read_46 : decode cX10_read 46 = .ok (.iload_n 2, 1) := by decide +kernel
theorem dX10_read_47 : decode cX10_read 47 = .ok (.aload_n 0, 1) := by decide +kernel
theorem dX10_read_48 : decode cX10_read 48 = .ok (.getfield 32, 3) := by decide +kernel
theorem dX10_read_51 : decode cX10_read 51 = .ok (.getfield 120, 3) := by decide +kernel
theorem dX10_read_54 : decode cX10_read 54 = .ok (.if_icmp .ge 60, 3) := by decide +kernel
theorem dX10_read_57 : decode cX10_read 57 = .ok (.aload_n 0, 1) := by decide +kernel
theorem dX10_read_58 : decode cX10_read 58 = .ok (.iload_n 2, 1) := by decide +kernel
theorem dX10_read_59 : decode cX10_read 59 = .ok (.invokevirtual 123, 3) := by decide +kernel
theorem dX10_read_62 : decode cX10_read 62 = .ok (.istore_n 3, 1) := by decide +kernel
theorem dX10_read_63 : decode cX10_read 63 = .ok (.iload_n 3, 1) := by decide +kernel
theorem dX10_read_64 : decode cX10_read 64 = .ok (.ifCond .ge 44, 3) := by decide +kernel
theorem dX10_read_67 : decode cX10_read 67 = .ok (.aload_n 0, 1) := by decide +kernel
theorem dX10_read_68 : decode cX10_read 68 = .ok (.getfield 25, 3) := by decide +kernel
theorem dX10_read_71 : decode cX10_read 71 = .ok (.aload_n 0, 1) := by decide +kernel
theorem dX10_read_72 : decode cX10_read 72 = .ok (.getfield 10, 3) := by decide +kernel
theorem dX10_read_75 : decode cX10_read 75 = .ok (.invokevirtual 126, 3) := by decide +kernel
theorem dX10_read_78 : decode cX10_read 78 = .ok (.iload_n 3, 1) := by decide +kernel
theorem dX10_read_79 : decode cX10_read 79 = .ok (.bipush (-3), 2) := by decide +kernel
theorem dX10_read_81 : decode cX10_read 81 = .ok (.if_icmp .ne 16, 3) := by decide +kernel
theorem dX10_read_84 : decode cX10_read 84 = .ok (.aload_n 0, 1) := by decide +kernel
theorem dX10_read_85 : decode cX10_read 85 = .ok (.getfield 46, 3) := by decide +kernel
theorem dX10_read_88 : decode cX10_read 88 = .ok (.bipush 7, 2) := by decide +kernel
theorem dX10_read_90 : decode cX10_read 90 = .ok (.iload_n 2, 1) := by decide +kernel
theorem dX10_read_91 : decode cX10_read 91 = .ok (.invokevirtual 129, 3) := by decide +kernel
theorem dX10_read_94 : decode cX10_read 94 = .ok (.goto 13, 3) := by decide +kernel
theorem dX10_read_97 : decode cX10_read 97 = .ok (.aload_n 0, 1) := by decide +kernel
theorem dX10_read_98 : decode cX10_read 98 = .ok (.getfield 46, 3) := by decide +kernel
theorem dX10_read_101 : decode cX10_read 101 = .ok (.bipush 8, 2) := by decide +kernel
theorem dX10_read_103 : decode cX10_read 103 = .ok (.iload_n 2, 1) := by decide +kernel
theorem dX10_read_104 : decode cX10_read 104 = .ok (.invokevirtual 133, 3) := by decide +kernel
theorem dX10_read_107 : decode cX10_read 107 = .ok (.ireturn, 1) := by decide +kernel
theorem dX10_read_108 : decode cX10_read 108 = .ok (.iinc 2 1, 3) := by decide +kernel
theorem dX10_read_111 : decode cX10_read 111 = .ok (.goto (-65), 3) := by decide +kernel
theorem dX10_read_114 : decode cX10_read 114 = .ok (.aload_n 0, 1) := by decide +kernel
theorem dX10_read_115 : decode cX10_read 115 = .ok (.getfield 25, 3) := by decide +kernel
theorem dX10_read_118 : decode cX10_read 118 = .ok (.invokevirtual 136, 3) := by decide +kernel
theorem dX10_read_121 : decode cX10_read 121 = .ok (.aload_n 0, 1) := by decide +kernel
theorem dX10_read_122 : decode cX10_read 122 = .ok (.getfield 32, 3) := by decide +kernel
theorem dX10_read_125 : decode cX10_read 125 = .ok (.getfield 120, 3) := by decide +kernel
theorem dX10_read_128 : decode cX10_read 128 = .ok (.ireturn, 1) := by decide +kernel
theorem dX10_fault_0 : decode cX10_fault 0 = .ok (.aload_n 0, 1) := by decide +kernel
theorem dX10_fault_1 : decode cX10_fault 1 = .ok (.getfield 50, 3) := by decide +kernel
theorem dX10_fault_4 : decode cX10_fault 4 = .ok (.ireturn, 1) := by decide +kernel
theorem dX10_reason_0 : decode cX10_reason 0 = .ok (.aload_n 0, 1) := by decide +kernel
theorem dX10_reason_1 : decode cX10_reason 1 = .ok (.getfield 46, 3) := by decide +kernel
theorem dX10_reason_4 : decode cX10_reason 4 = .ok (.iload_n 1, 1) := by decide +kernel
theorem dX10_reason_5 : decode cX10_reason 5 = .ok (.iload_n 2, 1) := by decide +kernel
theorem dX10_reason_6 : decode cX10_reason 6 = .ok (.invokevirtual 139, 3) := by decide +kernel
theorem dX10_reason_9 : decode cX10_reason 9 = .ok (.ireturn, 1) := by decide +kernel
theorem dX10_blockOf_0 : decode cX10_blockOf 0 = .ok (.aload_n 0, 1) := by decide +kernel
theorem dX10_blockOf_1 : decode cX10_blockOf 1 = .ok (.getfield 10, 3) := by decide +kernel
theorem dX10_blockOf_4 : decode cX10_blockOf 4 = .ok (.getfield 58, 3) := by decide +kernel
theorem dX10_blockOf_7 : decode cX10_blockOf 7 = .ok (.iload_n 1, 1) := by decide +kernel
theorem dX10_blockOf_8 : decode cX10_blockOf 8 = .ok (.invokevirtual 143, 3) := by decide +kernel
theorem dX10_blockOf_11 : decode cX10_blockOf 11 = .ok (.ifCond .ne 5, 3) := by decide +kernel
theorem dX10_blockOf_14 : decode cX10_blockOf 14 = .ok (.iconst (-1), 1) := by decide +kernel
theorem dX10_blockOf_15 : decode cX10_blockOf 15 = .ok (.ireturn, 1) := by decide +kernel
theorem dX10_blockOf_16 : decode cX10_blockOf 16 = .ok (.iload_n 2, 1) := by decide +kernel
theorem dX10_blockOf_17 : decode cX10_blockOf 17 = .ok (.tableswitch 144 0 6 #[43, 57, 74, 88, 102, 116, 130], 43) := by decide +kernel
theorem dX10_blockOf_60 : decode cX10_blockOf 60 = .ok (.aload_n 0, 1) := by decide +kernel
theorem dX10_blockOf_61 : decode cX10_blockOf 61 = .ok (.getfield 10, 3) := by decide +kernel
theorem dX10_blockOf_64 : decode cX10_blockOf 64 = .ok (.getfield 58, 3) := by decide +kernel
theorem dX10_blockOf_67 : decode cX10_blockOf 67 = .ok (.iload_n 1, 1) := by decide +kernel
theorem dX10_blockOf_68 : decode cX10_blockOf 68 = .ok (.invokevirtual 147, 3) := by decide +kernel
theorem dX10_blockOf_71 : decode cX10_blockOf 71 = .ok (.goto 92, 3) := by decide +kernel
theorem dX10_blockOf_74 : decode cX10_blockOf 74 = .ok (.aload_n 0, 1) := by decide +kernel
theorem dX10_blockOf_75 : decode cX10_blockOf 75 = .ok (.getfield 10, 3) := by decide +kernel
theorem dX10_blockOf_78 : decode cX10_blockOf 78 = .ok (.getfield 58, 3) := by decide +kernel
theorem dX10_blockOf_81 : decode cX10_blockOf 81 = .ok (.iload_n 1, 1) := by decide +kernel
theorem dX10_blockOf_82 : decode cX10_blockOf 82 = .ok (.invokevirtual 150, 3) := by decide +kernel
theorem dX10_blockOf_85 : decode cX10_blockOf 85 = .ok (.invokestatic 153, 3) := by decide +kernel
theorem dX10_blockOf_88 : decode cX10_blockOf 88 = .ok (.goto 75, 3) := by decide +kernel
theorem dX10_blockOf_91 : decode cX10_blockOf 91 = .ok (.aload_n 0, 1) := by decide +kernel
theorem dX10_blockOf_92 : decode cX10_blockOf 92 = .ok (.getfield 10, 3) := by decide +kernel
theorem dX10_blockOf_95 : decode cX10_blockOf 95 = .ok (.getfield 58, 3) := by decide +kernel
theorem dX10_blockOf_98 : decode cX10_blockOf 98 = .ok (.iload_n 1, 1) := by decide +kernel
theorem dX10_blockOf_99 : decode cX10_blockOf 99 = .ok (.invokevirtual 156, 3) := by decide +kernel
theorem dX10_blockOf_102 : decode cX10_blockOf 102 = .ok (.goto 61, 3) := by decide +kernel
theorem dX10_blockOf_105 : decode cX10_blockOf 105 = .ok (.aload_n 0, 1) := by decide +kernel
theorem dX10_blockOf_106 : decode cX10_blockOf 106 = .ok (.getfield 10, 3) := by decide +kernel
theorem dX10_blockOf_109 : decode cX10_blockOf 109 = .ok (.getfield 58, 3) := by decide +kernel
theorem dX10_blockOf_112 : decode cX10_blockOf 112 = .ok (.iload_n 1, 1) := by decide +kernel
theorem dX10_blockOf_113 : decode cX10_blockOf 113 = .ok (.invokevirtual 159, 3) := by decide +kernel
theorem dX10_blockOf_116 : decode cX10_blockOf 116 = .ok (.goto 47, 3) := by decide +kernel
theorem dX10_blockOf_119 : decode cX10_blockOf 119 = .ok (.aload_n 0, 1) := by decide +kernel
theorem dX10_blockOf_120 : decode cX10_blockOf 120 = .ok (.getfield 10, 3) := by decide +kernel
theorem dX10_blockOf_123 : decode cX10_blockOf 123 = .ok (.getfield 58, 3) := by decide +kernel
theorem dX10_blockOf_126 : decode cX10_blockOf 126 = .ok (.iload_n 1, 1) := by decide +kernel
theorem dX10_blockOf_127 : decode cX10_blockOf 127 = .ok (.invokevirtual 162, 3) := by decide +kernel
theorem dX10_blockOf_130 : decode cX10_blockOf 130 = .ok (.goto 33, 3) := by decide +kernel
theorem dX10_blockOf_133 : decode cX10_blockOf 133 = .ok (.aload_n 0, 1) := by decide +kernel
theorem dX10_blockOf_134 : decode cX10_blockOf 134 = .ok (.getfield 10, 3) := by decide +kernel
theorem dX10_blockOf_137 : decode cX10_blockOf 137 = .ok (.getfield 58, 3) := by decide +kernel
theorem dX10_blockOf_140 : decode cX10_blockOf 140 = .ok (.iload_n 1, 1) := by decide +kernel
theorem dX10_blockOf_141 : decode cX10_blockOf 141 = .ok (.invokevirtual 165, 3) := by decide +kernel
theorem dX10_blockOf_144 : decode cX10_blockOf 144 = .ok (.goto 19, 3) := by decide +kernel
theorem dX10_blockOf_147 : decode cX10_blockOf 147 = .ok (.aload_n 0, 1) := by decide +kernel
theorem dX10_blockOf_148 : decode cX10_blockOf 148 = .ok (.getfield 10, 3) := by decide +kernel
theorem dX10_blockOf_151 : decode cX10_blockOf 151 = .ok (.getfield 168, 3) := by decide +kernel
theorem dX10_blockOf_154 : decode cX10_blockOf 154 = .ok (.iload_n 1, 1) := by decide +kernel
theorem dX10_blockOf_155 : decode cX10_blockOf 155 = .ok (.invokevirtual 172, 3) := by decide +kernel
theorem dX10_blockOf_158 : decode cX10_blockOf 158 = .ok (.goto 5, 3) := by decide +kernel
theorem dX10_blockOf_161 : decode cX10_blockOf 161 = .ok (.bipush (-2), 2) := by decide +kernel
theorem dX10_blockOf_163 : decode cX10_blockOf 163 = .ok (.ireturn, 1) := by decide +kernel
theorem dX10_treeOf_0 : decode cX10_treeOf 0 = .ok (.aload_n 0, 1) := by decide +kernel
theorem dX10_treeOf_1 : decode cX10_treeOf 1 = .ok (.getfield 10, 3) := by decide +kernel
theorem dX10_treeOf_4 : decode cX10_treeOf 4 = .ok (.getfield 58, 3) := by decide +kernel
theorem dX10_treeOf_7 : decode cX10_treeOf 7 = .ok (.iload_n 1, 1) := by decide +kernel
theorem dX10_treeOf_8 : decode cX10_treeOf 8 = .ok (.invokevirtual 143, 3) := by decide +kernel
theorem dX10_treeOf_11 : decode cX10_treeOf 11 = .ok (.ifCond .ne 5, 3) := by decide +kernel
theorem dX10_treeOf_14 : decode cX10_treeOf 14 = .ok (.iconst (-1), 1) := by decide +kernel
theorem dX10_treeOf_15 : decode cX10_treeOf 15 = .ok (.ireturn, 1) := by decide +kernel
theorem dX10_treeOf_16 : decode cX10_treeOf 16 = .ok (.iload_n 2, 1) := by decide +kernel
theorem dX10_treeOf_17 : decode cX10_treeOf 17 = .ok (.tableswitch 150 0 6 #[43, 60, 77, 94, 111, 125, 139], 43) := by decide +kernel
theorem dX10_treeOf_60 : decode cX10_treeOf 60 = .ok (.aload_n 0, 1) := by decide +kernel
theorem dX10_treeOf_61 : decode cX10_treeOf 61 = .ok (.getfield 10, 3) := by decide +kernel
theorem dX10_treeOf_64 : decode cX10_treeOf 64 = .ok (.getfield 177, 3) := by decide +kernel
theorem dX10_treeOf_67 : decode cX10_treeOf 67 = .ok (.iload_n 1, 1) := by decide +kernel
theorem dX10_treeOf_68 : decode cX10_treeOf 68 = .ok (.invokevirtual 181, 3) := by decide +kernel
theorem dX10_treeOf_71 : decode cX10_treeOf 71 = .ok (.invokestatic 153, 3) := by decide +kernel
theorem dX10_treeOf_74 : decode cX10_treeOf 74 = .ok (.goto 95, 3) := by decide +kernel
theorem dX10_treeOf_77 : decode cX10_treeOf 77 = .ok (.aload_n 0, 1) := by decide +kernel
theorem dX10_treeOf_78 : decode cX10_treeOf 78 = .ok (.getfield 10, 3) := by decide +kernel
theorem dX10_treeOf_81 : decode cX10_treeOf 81 = .ok (.getfield 177, 3) := by decide +kernel
theorem dX10_treeOf_84 : decode cX10_treeOf 84 = .ok (.iload_n 1, 1) := by decide +kernel
theorem dX10_treeOf_85 : decode cX10_treeOf 85 = .ok (.invokevirtual 186, 3) := by decide +kernel
theorem dX10_treeOf_88 : decode cX10_treeOf 88 = .ok (.invokestatic 153, 3) := by decide +kernel
theorem dX10_treeOf_91 : decode cX10_treeOf 91 = .ok (.goto 78, 3) := by decide +kernel
theorem dX10_treeOf_94 : decode cX10_treeOf 94 = .ok (.aload_n 0, 1) := by decide +kernel
theorem dX10_treeOf_95 : decode cX10_treeOf 95 = .ok (.getfield 10, 3) := by decide +kernel
theorem dX10_treeOf_98 : decode cX10_treeOf 98 = .ok (.getfield 177, 3) := by decide +kernel
theorem dX10_treeOf_101 : decode cX10_treeOf 101 = .ok (.iload_n 1, 1) := by decide +kernel
theorem dX10_treeOf_102 : decode cX10_treeOf 102 = .ok (.invokevirtual 189, 3) := by decide +kernel
theorem dX10_treeOf_105 : decode cX10_treeOf 105 = .ok (.invokestatic 153, 3) := by decide +kernel
theorem dX10_treeOf_108 : decode cX10_treeOf 108 = .ok (.goto 61, 3) := by decide +kernel
theorem dX10_treeOf_111 : decode cX10_treeOf 111 = .ok (.aload_n 0, 1) := by decide +kernel
theorem dX10_treeOf_112 : decode cX10_treeOf 112 = .ok (.getfield 10, 3) := by decide +kernel
theorem dX10_treeOf_115 : decode cX10_treeOf 115 = .ok (.getfield 177, 3) := by decide +kernel
theorem dX10_treeOf_118 : decode cX10_treeOf 118 = .ok (.iload_n 1, 1) := by decide +kernel
theorem dX10_treeOf_119 : decode cX10_treeOf 119 = .ok (.invokevirtual 192, 3) := by decide +kernel
theorem dX10_treeOf_122 : decode cX10_treeOf 122 = .ok (.invokestatic 153, 3) := by decide +kernel
theorem dX10_treeOf_125 : decode cX10_treeOf 125 = .ok (.goto 44, 3) := by decide +kernel
theorem dX10_treeOf_128 : decode cX10_treeOf 128 = .ok (.aload_n 0, 1) := by decide +kernel
theorem dX10_treeOf_129 : decode cX10_treeOf 129 = .ok (.getfield 10, 3) := by decide +kernel
theorem dX10_treeOf_132 : decode cX10_treeOf 132 = .ok (.getfield 177, 3) := by decide +kernel
theorem dX10_treeOf_135 : decode cX10_treeOf 135 = .ok (.iload_n 1, 1) := by decide +kernel
theorem dX10_treeOf_136 : decode cX10_treeOf 136 = .ok (.invokevirtual 195, 3) := by decide +kernel
theorem dX10_treeOf_139 : decode cX10_treeOf 139 = .ok (.goto 30, 3) := by decide +kernel
theorem dX10_treeOf_142 : decode cX10_treeOf 142 = .ok (.aload_n 0, 1) := by decide +kernel
theorem dX10_treeOf_143 : decode cX10_treeOf 143 = .ok (.getfield 10, 3) := by decide +kernel
theorem dX10_treeOf_146 : decode cX10_treeOf 146 = .ok (.getfield 177, 3) := by decide +kernel
theorem dX10_treeOf_149 : decode cX10_treeOf 149 = .ok (.iload_n 1, 1) := by decide +kernel
theorem dX10_treeOf_150 : decode cX10_treeOf 150 = .ok (.invokevirtual 198, 3) := by decide +kernel
theorem dX10_treeOf_153 : decode cX10_treeOf 153 = .ok (.goto 16, 3) := by decide +kernel
theorem dX10_treeOf_156 : decode cX10_treeOf 156 = .ok (.aload_n 0, 1) := by decide +kernel
theorem dX10_treeOf_157 : decode cX10_treeOf 157 = .ok (.getfield 10, 3) := by decide +kernel
theorem dX10_treeOf_160 : decode cX10_treeOf 160 = .ok (.iload_n 1, 1) := by decide +kernel
theorem dX10_treeOf_161 : decode cX10_treeOf 161 = .ok (.invokevirtual 201, 3) := by decide +kernel
theorem dX10_treeOf_164 : decode cX10_treeOf 164 = .ok (.goto 5, 3) := by decide +kernel
theorem dX10_treeOf_167 : decode cX10_treeOf 167 = .ok (.bipush (-2), 2) := by decide +kernel
theorem dX10_treeOf_169 : decode cX10_treeOf 169 = .ok (.ireturn, 1) := by decide +kernel
theorem dX10_ropeOf_0 : decode cX10_ropeOf 0 = .ok (.aload_n 0, 1) := by decide +kernel
theorem dX10_ropeOf_1 : decode cX10_ropeOf 1 = .ok (.getfield 10, 3) := by decide +kernel
theorem dX10_ropeOf_4 : decode cX10_ropeOf 4 = .ok (.getfield 58, 3) := by decide +kernel
theorem dX10_ropeOf_7 : decode cX10_ropeOf 7 = .ok (.iload_n 1, 1) := by decide +kernel
theorem dX10_ropeOf_8 : decode cX10_ropeOf 8 = .ok (.invokevirtual 143, 3) := by decide +kernel
theorem dX10_ropeOf_11 : decode cX10_ropeOf 11 = .ok (.ifCond .eq 18, 3) := by decide +kernel
theorem dX10_ropeOf_14 : decode cX10_ropeOf 14 = .ok (.aload_n 0, 1) := by decide +kernel
theorem dX10_ropeOf_15 : decode cX10_ropeOf 15 = .ok (.getfield 10, 3) := by decide +kernel
theorem dX10_ropeOf_18 : decode cX10_ropeOf 18 = .ok (.getfield 177, 3) := by decide +kernel
theorem dX10_ropeOf_21 : decode cX10_ropeOf 21 = .ok (.iload_n 1, 1) := by decide +kernel
theorem dX10_ropeOf_22 : decode cX10_ropeOf 22 = .ok (.iload_n 2, 1) := by decide +kernel
theorem dX10_ropeOf_23 : decode cX10_ropeOf 23 = .ok (.invokevirtual 204, 3) := by decide +kernel
theorem dX10_ropeOf_26 : decode cX10_ropeOf 26 = .ok (.goto 4, 3) := by decide +kernel
theorem dX10_ropeOf_29 : decode cX10_ropeOf 29 = .ok (.iconst (-1), 1) := by decide +kernel
theorem dX10_ropeOf_30 : decode cX10_ropeOf 30 = .ok (.ireturn, 1) := by decide +kernel
theorem dX10_placeOf_0 : decode cX10_placeOf 0 = .ok (.aload_n 0, 1) := by decide +kernel
theorem dX10_placeOf_1 : decode cX10_placeOf 1 = .ok (.getfield 10, 3) := by decide +kernel
theorem dX10_placeOf_4 : decode cX10_placeOf 4 = .ok (.getfield 58, 3) := by decide +kernel
theorem dX10_placeOf_7 : decode cX10_placeOf 7 = .ok (.iload_n 1, 1) := by decide +kernel
theorem dX10_placeOf_8 : decode cX10_placeOf 8 = .ok (.invokevirtual 143, 3) := by decide +kernel
theorem dX10_placeOf_11 : decode cX10_placeOf 11 = .ok (.ifCond .eq 17, 3) := by decide +kernel
theorem dX10_placeOf_14 : decode cX10_placeOf 14 = .ok (.aload_n 0, 1) := by decide +kernel
theorem dX10_placeOf_15 : decode cX10_placeOf 15 = .ok (.getfield 10, 3) := by decide +kernel
theorem dX10_placeOf_18 : decode cX10_placeOf 18 = .ok (.getfield 177, 3) := by decide +kernel
theorem dX10_placeOf_21 : decode cX10_placeOf 21 = .ok (.iload_n 1, 1) := by decide +kernel
theorem dX10_placeOf_22 : decode cX10_placeOf 22 = .ok (.invokevirtual 207, 3) := by decide +kernel
theorem dX10_placeOf_25 : decode cX10_placeOf 25 = .ok (.goto 4, 3) := by decide +kernel
theorem dX10_placeOf_28 : decode cX10_placeOf 28 = .ok (.iconst (-1), 1) := by decide +kernel
theorem dX10_placeOf_29 : decode cX10_placeOf 29 = .ok (.ireturn, 1) := by decide +kernel
theorem dX10_ropes_0 : decode cX10_ropes 0 = .ok (.aload_n 0, 1) := by decide +kernel
theorem dX10_ropes_1 : decode cX10_ropes 1 = .ok (.getfield 10, 3) := by decide +kernel
theorem dX10_ropes_4 : decode cX10_ropes 4 = .ok (.invokevirtual 210, 3) := by decide +kernel
theorem dX10_ropes_7 : decode cX10_ropes 7 = .ok (.ireturn, 1) := by decide +kernel
theorem dX10_ropesAbove_0 : decode cX10_ropesAbove 0 = .ok (.aload_n 0, 1) := by decide +kernel
theorem dX10_ropesAbove_1 : decode cX10_ropesAbove 1 = .ok (.getfield 10, 3) := by decide +kernel
theorem dX10_ropesAbove_4 : decode cX10_ropesAbove 4 = .ok (.getfield 58, 3) := by decide +kernel
theorem dX10_ropesAbove_7 : decode cX10_ropesAbove 7 = .ok (.iload_n 1, 1) := by decide +kernel
theorem dX10_ropesAbove_8 : decode cX10_ropesAbove 8 = .ok (.invokevirtual 143, 3) := by decide +kernel
theorem dX10_ropesAbove_11 : decode cX10_ropesAbove 11 = .ok (.ifCond .eq 14, 3) := by decide +kernel
theorem dX10_ropesAbove_14 : decode cX10_ropesAbove 14 = .ok (.aload_n 0, 1) := by decide +kernel
theorem dX10_ropesAbove_15 : decode cX10_ropesAbove 15 = .ok (.getfield 10, 3) := by decide +kernel
theorem dX10_ropesAbove_18 : decode cX10_ropesAbove 18 = .ok (.iload_n 1, 1) := by decide +kernel
theorem dX10_ropesAbove_19 : decode cX10_ropesAbove 19 = .ok (.invokevirtual 214, 3) := by decide +kernel
theorem dX10_ropesAbove_22 : decode cX10_ropesAbove 22 = .ok (.goto 4, 3) := by decide +kernel
theorem dX10_ropesAbove_25 : decode cX10_ropesAbove 25 = .ok (.iconst (-1), 1) := by decide +kernel
theorem dX10_ropesAbove_26 : decode cX10_ropesAbove 26 = .ok (.ireturn, 1) := by decide +kernel
theorem dX10_turnsFor_0 : decode cX10_turnsFor 0 = .ok (.aload_n 0, 1) := by decide +kernel
theorem dX10_turnsFor_1 : decode cX10_turnsFor 1 = .ok (.getfield 10, 3) := by decide +kernel
theorem dX10_turnsFor_4 : decode cX10_turnsFor 4 = .ok (.getfield 58, 3) := by decide +kernel
theorem dX10_turnsFor_7 : decode cX10_turnsFor 7 = .ok (.iload_n 1, 1) := by decide +kernel
theorem dX10_turnsFor_8 : decode cX10_turnsFor 8 = .ok (.invokevirtual 143, 3) := by decide +kernel
theorem dX10_turnsFor_11 : decode cX10_turnsFor 11 = .ok (.ifCond .ne 5, 3) := by decide +kernel
theorem dX10_turnsFor_14 : decode cX10_turnsFor 14 = .ok (.iconst (-1), 1) := by decide +kernel
theorem dX10_turnsFor_15 : decode cX10_turnsFor 15 = .ok (.ireturn, 1) := by decide +kernel
theorem dX10_turnsFor_16 : decode cX10_turnsFor 16 = .ok (.aload_n 0, 1) := by decide +kernel
theorem dX10_turnsFor_17 : decode cX10_turnsFor 17 = .ok (.getfield 19, 3) := by decide +kernel
theorem dX10_turnsFor_20 : decode cX10_turnsFor 20 = .ok (.aload_n 0, 1) := by decide +kernel
theorem dX10_turnsFor_21 : decode cX10_turnsFor 21 = .ok (.getfield 10, 3) := by decide +kernel
theorem dX10_turnsFor_24 : decode cX10_turnsFor 24 = .ok (.invokevirtual 217, 3) := by decide +kernel
theorem dX10_turnsFor_27 : decode cX10_turnsFor 27 = .ok (.aload_n 0, 1) := by decide +kernel
theorem dX10_turnsFor_28 : decode cX10_turnsFor 28 = .ok (.getfield 19, 3) := by decide +kernel
theorem dX10_turnsFor_31 : decode cX10_turnsFor 31 = .ok (.iload_n 1, 1) := by decide +kernel
theorem dX10_turnsFor_32 : decode cX10_turnsFor 32 = .ok (.invokevirtual 220, 3) := by decide +kernel
theorem dX10_turnsFor_35 : decode cX10_turnsFor 35 = .ok (.aload_n 0, 1) := by decide +kernel
theorem dX10_turnsFor_36 : decode cX10_turnsFor 36 = .ok (.getfield 19, 3) := by decide +kernel
theorem dX10_turnsFor_39 : decode cX10_turnsFor 39 = .ok (.getfield 177, 3) := by decide +kernel
theorem dX10_turnsFor_42 : decode cX10_turnsFor 42 = .ok (.getfield 224, 3) := by decide +kernel
theorem dX10_turnsFor_45 : decode cX10_turnsFor 45 = .ok (.aload_n 0, 1) := by decide +kernel
theorem dX10_turnsFor_46 : decode cX10_turnsFor 46 = .ok (.getfield 10, 3) := by decide +kernel
theorem dX10_turnsFor_49 : decode cX10_turnsFor 49 = .ok (.getfield 177, 3) := by decide +kernel
theorem dX10_turnsFor_52 : decode cX10_turnsFor 52 = .ok (.getfield 224, 3) := by decide +kernel
theorem dX10_turnsFor_55 : decode cX10_turnsFor 55 = .ok (.isub, 1) := by decide +kernel
theorem dX10_turnsFor_56 : decode cX10_turnsFor 56 = .ok (.ireturn, 1) := by decide +kernel
theorem dX10_sum_0 : decode cX10_sum 0 = .ok (.aload_n 0, 1) := by decide +kernel
theorem dX10_sum_1 : decode cX10_sum 1 = .ok (.getfield 10, 3) := by decide +kernel
theorem dX10_sum_4 : decode cX10_sum 4 = .ok (.getfield 58, 3) := by decide +kernel
theorem dX10_sum_7 : decode cX10_sum 7 = .ok (.iload_n 1, 1) := by decide +kernel
theorem dX10_sum_8 : decode cX10_sum 8 = .ok (.invokevirtual 143, 3) := by decide +kernel
theorem dX10_sum_11 : decode cX10_sum 11 = .ok (.ifCond .eq 14, 3) := by decide +kernel
theorem dX10_sum_14 : decode cX10_sum 14 = .ok (.aload_n 0, 1) := by decide +kernel
theorem dX10_sum_15 : decode cX10_sum 15 = .ok (.getfield 10, 3) := by decide +kernel
theorem dX10_sum_18 : decode cX10_sum 18 = .ok (.iload_n 1, 1) := by decide +kernel
theorem dX10_sum_19 : decode cX10_sum 19 = .ok (.invokevirtual 227, 3) := by decide +kernel
theorem dX10_sum_22 : decode cX10_sum 22 = .ok (.goto 4, 3) := by decide +kernel
theorem dX10_sum_25 : decode cX10_sum 25 = .ok (.iconst (-1), 1) := by decide +kernel
theorem dX10_sum_26 : decode cX10_sum 26 = .ok (.ireturn, 1) := by decide +kernel
theorem dX10_sumAgain_0 : decode cX10_sumAgain 0 = .ok (.aload_n 0, 1) := by decide +kernel
theorem dX10_sumAgain_1 : decode cX10_sumAgain 1 = .ok (.getfield 10, 3) := by decide +kernel
theorem dX10_sumAgain_4 : decode cX10_sumAgain 4 = .ok (.getfield 58, 3) := by decide +kernel
theorem dX10_sumAgain_7 : decode cX10_sumAgain 7 = .ok (.iload_n 1, 1) := by decide +kernel
theorem dX10_sumAgain_8 : decode cX10_sumAgain 8 = .ok (.invokevirtual 143, 3) := by decide +kernel
theorem dX10_sumAgain_11 : decode cX10_sumAgain 11 = .ok (.ifCond .eq 17, 3) := by decide +kernel
theorem dX10_sumAgain_14 : decode cX10_sumAgain 14 = .ok (.aload_n 0, 1) := by decide +kernel
theorem dX10_sumAgain_15 : decode cX10_sumAgain 15 = .ok (.getfield 10, 3) := by decide +kernel
theorem dX10_sumAgain_18 : decode cX10_sumAgain 18 = .ok (.getfield 58, 3) := by decide +kernel
theorem dX10_sumAgain_21 : decode cX10_sumAgain 21 = .ok (.iload_n 1, 1) := by decide +kernel
theorem dX10_sumAgain_22 : decode cX10_sumAgain 22 = .ok (.invokevirtual 230, 3) := by decide +kernel
theorem dX10_sumAgain_25 : decode cX10_sumAgain 25 = .ok (.goto 4, 3) := by decide +kernel
theorem dX10_sumAgain_28 : decode cX10_sumAgain 28 = .ok (.iconst (-1), 1) := by decide +kernel
theorem dX10_sumAgain_29 : decode cX10_sumAgain 29 = .ok (.ireturn, 1) := by decide +kernel
theorem dX10_root_0 : decode cX10_root 0 = .ok (.aload_n 0, 1) := by decide +kernel
theorem dX10_root_1 : decode cX10_root 1 = .ok (.getfield 10, 3) := by decide +kernel
theorem dX10_root_4 : decode cX10_root 4 = .ok (.getfield 58, 3) := by decide +kernel
theorem dX10_root_7 : decode cX10_root 7 = .ok (.iload_n 1, 1) := by decide +kernel
theorem dX10_root_8 : decode cX10_root 8 = .ok (.invokevirtual 143, 3) := by decide +kernel
theorem dX10_root_11 : decode cX10_root 11 = .ok (.ifCond .eq 14, 3) := by decide +kernel
theorem dX10_root_14 : decode cX10_root 14 = .ok (.aload_n 0, 1) := by decide +kernel
theorem dX10_root_15 : decode cX10_root 15 = .ok (.getfield 10, 3) := by decide +kernel
theorem dX10_root_18 : decode cX10_root 18 = .ok (.iload_n 1, 1) := by decide +kernel
theorem dX10_root_19 : decode cX10_root 19 = .ok (.invokevirtual 233, 3) := by decide +kernel
theorem dX10_root_22 : decode cX10_root 22 = .ok (.goto 4, 3) := by decide +kernel
theorem dX10_root_25 : decode cX10_root 25 = .ok (.iconst (-1), 1) := by decide +kernel
theorem dX10_root_26 : decode cX10_root 26 = .ok (.ireturn, 1) := by decide +kernel
theorem dX10_rootAgain_0 : decode cX10_rootAgain 0 = .ok (.aload_n 0, 1) := by decide +kernel
theorem dX10_rootAgain_1 : decode cX10_rootAgain 1 = .ok (.getfield 10, 3) := by decide +kernel
theorem dX10_rootAgain_4 : decode cX10_rootAgain 4 = .ok (.getfield 58, 3) := by decide +kernel
theorem dX10_rootAgain_7 : decode cX10_rootAgain 7 = .ok (.iload_n 1, 1) := by decide +kernel
theorem dX10_rootAgain_8 : decode cX10_rootAgain 8 = .ok (.invokevirtual 143, 3) := by decide +kernel
theorem dX10_rootAgain_11 : decode cX10_rootAgain 11 = .ok (.ifCond .eq 17, 3) := by decide +kernel
theorem dX10_rootAgain_14 : decode cX10_rootAgain 14 = .ok (.aload_n 0, 1) := by decide +kernel
theorem dX10_rootAgain_15 : decode cX10_rootAgain 15 = .ok (.getfield 10, 3) := by decide +kernel
theorem dX10_rootAgain_18 : decode cX10_rootAgain 18 = .ok (.getfield 58, 3) := by decide +kernel
theorem dX10_rootAgain_21 : decode cX10_rootAgain 21 = .ok (.iload_n 1, 1) := by decide +kernel
theorem dX10_rootAgain_22 : decode cX10_rootAgain 22 = .ok (.invokevirtual 236, 3) := by decide +kernel
theorem dX10_rootAgain_25 : decode cX10_rootAgain 25 = .ok (.goto 4, 3) := by decide +kernel
theorem dX10_rootAgain_28 : decode cX10_rootAgain 28 = .ok (.iconst (-1), 1) := by decide +kernel
theorem dX10_rootAgain_29 : decode cX10_rootAgain 29 = .ok (.ireturn, 1) := by decide +kernel
theorem dX10_joint_0 : decode cX10_joint 0 = .ok (.aload_n 0, 1) := by decide +kernel
theorem dX10_joint_1 : decode cX10_joint 1 = .ok (.getfield 10, 3) := by decide +kernel
theorem dX10_joint_4 : decode cX10_joint 4 = .ok (.getfield 58, 3) := by decide +kernel
theorem dX10_joint_7 : decode cX10_joint 7 = .ok (.iload_n 1, 1) := by decide +kernel
theorem dX10_joint_8 : decode cX10_joint 8 = .ok (.invokevirtual 143, 3) := by decide +kernel
theorem dX10_joint_11 : decode cX10_joint 11 = .ok (.ifCond .eq 21, 3) := by decide +kernel
theorem dX10_joint_14 : decode cX10_joint 14 = .ok (.aload_n 0, 1) := by decide +kernel
theorem dX10_joint_15 : decode cX10_joint 15 = .ok (.getfield 10, 3) := by decide +kernel
theorem dX10_joint_18 : decode cX10_joint 18 = .ok (.getfield 58, 3) := by decide +kernel
theorem dX10_joint_21 : decode cX10_joint 21 = .ok (.iload_n 2, 1) := by decide +kernel
theorem dX10_joint_22 : decode cX10_joint 22 = .ok (.invokevirtual 143, 3) := by decide +kernel
theorem dX10_joint_25 : decode cX10_joint 25 = .ok (.ifCond .eq 7, 3) := by decide +kernel
theorem dX10_joint_28 : decode cX10_joint 28 = .ok (.iconst 1, 1) := by decide +kernel
theorem dX10_joint_29 : decode cX10_joint 29 = .ok (.goto 4, 3) := by decide +kernel
theorem dX10_joint_32 : decode cX10_joint 32 = .ok (.iconst 0, 1) := by decide +kernel
theorem dX10_joint_33 : decode cX10_joint 33 = .ok (.istore_n 3, 1) := by decide +kernel
theorem dX10_joint_34 : decode cX10_joint 34 = .ok (.iload_n 3, 1) := by decide +kernel
theorem dX10_joint_35 : decode cX10_joint 35 = .ok (.ifCond .eq 15, 3) := by decide +kernel
theorem dX10_joint_38 : decode cX10_joint 38 = .ok (.aload_n 0, 1) := by decide +kernel
theorem dX10_joint_39 : decode cX10_joint 39 = .ok (.getfield 10, 3) := by decide +kernel
theorem dX10_joint_42 : decode cX10_joint 42 = .ok (.iload_n 1, 1) := by decide +kernel
theorem dX10_joint_43 : decode cX10_joint 43 = .ok (.iload_n 2, 1) := by decide +kernel
theorem dX10_joint_44 : decode cX10_joint 44 = .ok (.invokevirtual 239, 3) := by decide +kernel
theorem dX10_joint_47 : decode cX10_joint 47 = .ok (.goto 4, 3) := by decide +kernel
theorem dX10_joint_50 : decode cX10_joint 50 = .ok (.iconst (-1), 1) := by decide +kernel
theorem dX10_joint_51 : decode cX10_joint 51 = .ok (.ireturn, 1) := by decide +kernel
theorem dX10_jointAgain_0 : decode cX10_jointAgain 0 = .ok (.aload_n 0, 1) := by decide +kernel
theorem dX10_jointAgain_1 : decode cX10_jointAgain 1 = .ok (.getfield 10, 3) := by decide +kernel
theorem dX10_jointAgain_4 : decode cX10_jointAgain 4 = .ok (.getfield 58, 3) := by decide +kernel
theorem dX10_jointAgain_7 : decode cX10_jointAgain 7 = .ok (.iload_n 1, 1) := by decide +kernel
theorem dX10_jointAgain_8 : decode cX10_jointAgain 8 = .ok (.invokevirtual 143, 3) := by decide +kernel
theorem dX10_jointAgain_11 : decode cX10_jointAgain 11 = .ok (.ifCond .eq 21, 3) := by decide +kernel
theorem dX10_jointAgain_14 : decode cX10_jointAgain 14 = .ok (.aload_n 0, 1) := by decide +kernel
theorem dX10_jointAgain_15 : decode cX10_jointAgain 15 = .ok (.getfield 10, 3) := by decide +kernel
theorem dX10_jointAgain_18 : decode cX10_jointAgain 18 = .ok (.getfield 58, 3) := by decide +kernel
theorem dX10_jointAgain_21 : decode cX10_jointAgain 21 = .ok (.iload_n 2, 1) := by decide +kernel
theorem dX10_jointAgain_22 : decode cX10_jointAgain 22 = .ok (.invokevirtual 143, 3) := by decide +kernel
theorem dX10_jointAgain_25 : decode cX10_jointAgain 25 = .ok (.ifCond .eq 7, 3) := by decide +kernel
theorem dX10_jointAgain_28 : decode cX10_jointAgain 28 = .ok (.iconst 1, 1) := by decide +kernel
theorem dX10_jointAgain_29 : decode cX10_jointAgain 29 = .ok (.goto 4, 3) := by decide +kernel
theorem dX10_jointAgain_32 : decode cX10_jointAgain 32 = .ok (.iconst 0, 1) := by decide +kernel
theorem dX10_jointAgain_33 : decode cX10_jointAgain 33 = .ok (.istore_n 3, 1) := by decide +kernel
theorem dX10_jointAgain_34 : decode cX10_jointAgain 34 = .ok (.iload_n 3, 1) := by decide +kernel
theorem dX10_jointAgain_35 : decode cX10_jointAgain 35 = .ok (.ifCond .eq 18, 3) := by decide +kernel
theorem dX10_jointAgain_38 : decode cX10_jointAgain 38 = .ok (.aload_n 0, 1) := by decide +kernel
theorem dX10_jointAgain_39 : decode cX10_jointAgain 39 = .ok (.getfield 10, 3) := by decide +kernel
theorem dX10_jointAgain_42 : decode cX10_jointAgain 42 = .ok (.getfield 58, 3) := by decide +kernel
theorem dX10_jointAgain_45 : decode cX10_jointAgain 45 = .ok (.iload_n 1, 1) := by decide +kernel
theorem dX10_jointAgain_46 : decode cX10_jointAgain 46 = .ok (.iload_n 2, 1) := by decide +kernel
theorem dX10_jointAgain_47 : decode cX10_jointAgain 47 = .ok (.invokevirtual 242, 3) := by decide +kernel
theorem dX10_jointAgain_50 : decode cX10_jointAgain 50 = .ok (.goto 4, 3) := by decide +kernel
theorem dX10_jointAgain_53 : decode cX10_jointAgain 53 = .ok (.iconst (-1), 1) := by decide +kernel
theorem dX10_jointAgain_54 : decode cX10_jointAgain 54 = .ok (.ireturn, 1) := by decide +kernel
theorem dX10_sledgeOf_0 : decode cX10_sledgeOf 0 = .ok (.aload_n 0, 1) := by decide +kernel
theorem dX10_sledgeOf_1 : decode cX10_sledgeOf 1 = .ok (.getfield 10, 3) := by decide +kernel
theorem dX10_sledgeOf_4 : decode cX10_sledgeOf 4 = .ok (.getfield 168, 3) := by decide +kernel
theorem dX10_sledgeOf_7 : decode cX10_sledgeOf 7 = .ok (.iload_n 1, 1) := by decide +kernel
theorem dX10_sledgeOf_8 : decode cX10_sledgeOf 8 = .ok (.iload_n 2, 1) := by decide +kernel
theorem dX10_sledgeOf_9 : decode cX10_sledgeOf 9 = .ok (.invokevirtual 245, 3) := by decide +kernel
theorem dX10_sledgeOf_12 : decode cX10_sledgeOf 12 = .ok (.ireturn, 1) := by decide +kernel
theorem dX10_ranked_0 : decode cX10_ranked 0 = .ok (.aload_n 0, 1) := by decide +kernel
theorem dX10_ranked_1 : decode cX10_ranked 1 = .ok (.getfield 10, 3) := by decide +kernel
theorem dX10_ranked_4 : decode cX10_ranked 4 = .ok (.getfield 58, 3) := by decide +kernel
theorem dX10_ranked_7 : decode cX10_ranked 7 = .ok (.iload_n 1, 1) := by decide +kernel
theorem dX10_ranked_8 : decode cX10_ranked 8 = .ok (.invokevirtual 247, 3) := by decide +kernel
theorem dX10_ranked_11 : decode cX10_ranked 11 = .ok (.ireturn, 1) := by decide +kernel
theorem dX10_tellTree_0 : decode cX10_tellTree 0 = .ok (.aload_n 0, 1) := by decide +kernel
theorem dX10_tellTree_1 : decode cX10_tellTree 1 = .ok (.getfield 10, 3) := by decide +kernel
theorem dX10_tellTree_4 : decode cX10_tellTree 4 = .ok (.getfield 58, 3) := by decide +kernel
theorem dX10_tellTree_7 : decode cX10_tellTree 7 = .ok (.iload_n 1, 1) := by decide +kernel
theorem dX10_tellTree_8 : decode cX10_tellTree 8 = .ok (.invokevirtual 143, 3) := by decide +kernel
theorem dX10_tellTree_11 : decode cX10_tellTree 11 = .ok (.ifCond .ne 5, 3) := by decide +kernel
theorem dX10_tellTree_14 : decode cX10_tellTree 14 = .ok (.iconst (-1), 1) := by decide +kernel
theorem dX10_tellTree_15 : decode cX10_tellTree 15 = .ok (.ireturn, 1) := by decide +kernel
theorem dX10_tellTree_16 : decode cX10_tellTree 16 = .ok (.aload_n 0, 1) := by decide +kernel
theorem dX10_tellTree_17 : decode cX10_tellTree 17 = .ok (.getfield 39, 3) := by decide +kernel
theorem dX10_tellTree_20 : decode cX10_tellTree 20 = .ok (.invokevirtual 250, 3) := by decide +kernel
theorem dX10_tellTree_23 : decode cX10_tellTree 23 = .ok (.aload_n 0, 1) := by decide +kernel
theorem dX10_tellTree_24 : decode cX10_tellTree 24 = .ok (.getfield 39, 3) := by decide +kernel
theorem dX10_tellTree_27 : decode cX10_tellTree 27 = .ok (.aload_n 0, 1) := by decide +kernel
theorem dX10_tellTree_28 : decode cX10_tellTree 28 = .ok (.getfield 10, 3) := by decide +kernel
theorem dX10_tellTree_31 : decode cX10_tellTree 31 = .ok (.getfield 177, 3) := by decide +kernel
theorem dX10_tellTree_34 : decode cX10_tellTree 34 = .ok (.aload_n 0, 1) := by decide +kernel
theorem dX10_tellTree_35 : decode cX10_tellTree 35 = .ok (.getfield 10, 3) := by decide +kernel
theorem dX10_tellTree_38 : decode cX10_tellTree 38 = .ok (.getfield 177, 3) := by decide +kernel
theorem dX10_tellTree_41 : decode cX10_tellTree 41 = .ok (.iload_n 1, 1) := by decide +kernel
theorem dX10_tellTree_42 : decode cX10_tellTree 42 = .ok (.invokevirtual 192, 3) := by decide +kernel
theorem dX10_tellTree_45 : decode cX10_tellTree 45 = .ok (.iconst 0, 1) := by decide +kernel
theorem dX10_tellTree_46 : decode cX10_tellTree 46 = .ok (.invokestatic 251, 3) := by decide +kernel
theorem dX10_tellTree_49 : decode cX10_tellTree 49 = .ok (.aload_n 0, 1) := by decide +kernel
theorem dX10_tellTree_50 : decode cX10_tellTree 50 = .ok (.getfield 39, 3) := by decide +kernel
theorem dX10_tellTree_53 : decode cX10_tellTree 53 = .ok (.getfield 255, 3) := by decide +kernel
theorem dX10_tellTree_56 : decode cX10_tellTree 56 = .ok (.ireturn, 1) := by decide +kernel
theorem dX10_tellRopes_0 : decode cX10_tellRopes 0 = .ok (.aload_n 0, 1) := by decide +kernel
theorem dX10_tellRopes_1 : decode cX10_tellRopes 1 = .ok (.getfield 39, 3) := by decide +kernel
theorem dX10_tellRopes_4 : decode cX10_tellRopes 4 = .ok (.invokevirtual 250, 3) := by decide +kernel
theorem dX10_tellRopes_7 : decode cX10_tellRopes 7 = .ok (.iconst 0, 1) := by decide +kernel
theorem dX10_tellRopes_8 : decode cX10_tellRopes 8 = .ok (.istore_n 1, 1) := by decide +kernel
theorem dX10_tellRopes_9 : decode cX10_tellRopes 9 = .ok (.iload_n 1, 1) := by decide +kernel
theorem dX10_tellRopes_10 : decode cX10_tellRopes 10 = .ok (.aload_n 0, 1) := by decide +kernel
theorem dX10_tellRopes_11 : decode cX10_tellRopes 11 = .ok (.getfield 10, 3) := by decide +kernel
theorem dX10_tellRopes_14 : decode cX10_tellRopes 14 = .ok (.getfield 58, 3) := by decide +kernel
theorem dX10_tellRopes_17 : decode cX10_tellRopes 17 = .ok (.getfield 62, 3) := by decide +kernel
theorem dX10_tellRopes_20 : decode cX10_tellRopes 20 = .ok (.if_icmp .ge 48, 3) := by decide +kernel
theorem dX10_tellRopes_23 : decode cX10_tellRopes 23 = .ok (.aload_n 0, 1) := by decide +kernel
theorem dX10_tellRopes_24 : decode cX10_tellRopes 24 = .ok (.getfield 10, 3) := by decide +kernel
theorem dX10_tellRopes_27 : decode cX10_tellRopes 27 = .ok (.getfield 177, 3) := by decide +kernel
theorem dX10_tellRopes_30 : decode cX10_tellRopes 30 = .ok (.iload_n 1, 1) := by decide +kernel
theorem dX10_tellRopes_31 : decode cX10_tellRopes 31 = .ok (.invokevirtual 258, 3) := by decide +kernel
theorem dX10_tellRopes_34 : decode cX10_tellRopes 34 = .ok (.iload_n 1, 1) := by decide +kernel
theorem dX10_tellRopes_35 : decode cX10_tellRopes 35 = .ok (.if_icmp .ne 27, 3) := by decide +kernel
theorem dX10_tellRopes_38 : decode cX10_tellRopes 38 = .ok (.aload_n 0, 1) := by decide +kernel
theorem dX10_tellRopes_39 : decode cX10_tellRopes 39 = .ok (.getfield 39, 3) := by decide +kernel
theorem dX10_tellRopes_42 : decode cX10_tellRopes 42 = .ok (.getfield 255, 3) := by decide +kernel
theorem dX10_tellRopes_45 : decode cX10_tellRopes 45 = .ok (.ifCond .le 12, 3) := by decide +kernel
theorem dX10_tellRopes_48 : decode cX10_tellRopes 48 = .ok (.aload_n 0, 1) := by decide +kernel
theorem dX10_tellRopes_49 : decode cX10_tellRopes 49 = .ok (.getfield 39, 3) := by decide +kernel
theorem dX10_tellRopes_52 : decode cX10_tellRopes 52 = .ok (.bipush 32, 2) := by decide +kernel
theorem dX10_tellRopes_54 : decode cX10_tellRopes 54 = .ok (.invokevirtual 261, 3) := by decide +kernel
theorem dX10_tellRopes_57 : decode cX10_tellRopes 57 = .ok (.aload_n 0, 1) := by decide +kernel
theorem dX10_tellRopes_58 : decode cX10_tellRopes 58 = .ok (.iload_n 1, 1) := by decide +kernel
theorem dX10_tellRopes_59 : decode cX10_tellRopes 59 = .ok (.invokevirtual 265, 3) := by decide +kernel
theorem dX10_tellRopes_62 : decode cX10_tellRopes 62 = .ok (.iinc 1 1, 3) := by decide +kernel
theorem dX10_tellRopes_65 : decode cX10_tellRopes 65 = .ok (.goto (-56), 3) := by decide +kernel
theorem dX10_tellRopes_68 : decode cX10_tellRopes 68 = .ok (.aload_n 0, 1) := by decide +kernel
theorem dX10_tellRopes_69 : decode cX10_tellRopes 69 = .ok (.getfield 39, 3) := by decide +kernel
theorem dX10_tellRopes_72 : decode cX10_tellRopes 72 = .ok (.getfield 255, 3) := by decide +kernel
theorem dX10_tellRopes_75 : decode cX10_tellRopes 75 = .ok (.ireturn, 1) := by decide +kernel
theorem dX10_written_0 : decode cX10_written 0 = .ok (.aload_n 0, 1) := by decide +kernel
theorem dX10_written_1 : decode cX10_written 1 = .ok (.getfield 39, 3) := by decide +kernel
theorem dX10_written_4 : decode cX10_written 4 = .ok (.iload_n 1, 1) := by decide +kernel
theorem dX10_written_5 : decode cX10_written 5 = .ok (.invokevirtual 268, 3) := by decide +kernel
theorem dX10_written_8 : decode cX10_written 8 = .ok (.ireturn, 1) := by decide +kernel
theorem dX10_isWell_0 : decode cX10_isWell 0 = .ok (.aload_n 0, 1) := by decide +kernel
theorem dX10_isWell_1 : decode cX10_isWell 1 = .ok (.getfield 10, 3) := by decide +kernel
theorem dX10_isWell_4 : decode cX10_isWell 4 = .ok (.invokevirtual 271, 3) := by decide +kernel
theorem dX10_isWell_7 : decode cX10_isWell 7 = .ok (.ifCond .eq 17, 3) := by decide +kernel
theorem dX10_isWell_10 : decode cX10_isWell 10 = .ok (.aload_n 0, 1) := by decide +kernel
theorem dX10_isWell_11 : decode cX10_isWell 11 = .ok (.getfield 10, 3) := by decide +kernel
theorem dX10_isWell_14 : decode cX10_isWell 14 = .ok (.invokevirtual 274, 3) := by decide +kernel
theorem dX10_isWell_17 : decode cX10_isWell 17 = .ok (.ifCond .eq 7, 3) := by decide +kernel
theorem dX10_isWell_20 : decode cX10_isWell 20 = .ok (.iconst 1, 1) := by decide +kernel
theorem dX10_isWell_21 : decode cX10_isWell 21 = .ok (.goto 4, 3) := by decide +kernel
theorem dX10_isWell_24 : decode cX10_isWell 24 = .ok (.iconst 0, 1) := by decide +kernel
theorem dX10_isWell_25 : decode cX10_isWell 25 = .ok (.ireturn, 1) := by decide +kernel
theorem dX10_meanDepth_0 : decode cX10_meanDepth 0 = .ok (.aload_n 0, 1) := by decide +kernel
theorem dX10_meanDepth_1 : decode cX10_meanDepth 1 = .ok (.getfield 10, 3) := by decide +kernel
theorem dX10_meanDepth_4 : decode cX10_meanDepth 4 = .ok (.getfield 58, 3) := by decide +kernel
theorem dX10_meanDepth_7 : decode cX10_meanDepth 7 = .ok (.getfield 62, 3) := by decide +kernel
theorem dX10_meanDepth_10 : decode cX10_meanDepth 10 = .ok (.istore_n 1, 1) := by decide +kernel
theorem dX10_meanDepth_11 : decode cX10_meanDepth 11 = .ok (.iload_n 1, 1) := by decide +kernel
theorem dX10_meanDepth_12 : decode cX10_meanDepth 12 = .ok (.ifCond .gt 7, 3) := by decide +kernel
theorem dX10_meanDepth_15 : decode cX10_meanDepth 15 = .ok (.fconst 0, 1) := by decide +kernel
theorem dX10_meanDepth_16 : decode cX10_meanDepth 16 = .ok (.goto 17, 3) := by decide +kernel
theorem dX10_meanDepth_19 : decode cX10_meanDepth 19 = .ok (.aload_n 0, 1) := by decide +kernel
theorem dX10_meanDepth_20 : decode cX10_meanDepth 20 = .ok (.getfield 10, 3) := by decide +kernel
theorem dX10_meanDepth_23 : decode cX10_meanDepth 23 = .ok (.getfield 58, 3) := by decide +kernel
theorem dX10_meanDepth_26 : decode cX10_meanDepth 26 = .ok (.invokevirtual 277, 3) := by decide +kernel
theorem dX10_meanDepth_29 : decode cX10_meanDepth 29 = .ok (.i2f, 1) := by decide +kernel
theorem dX10_meanDepth_30 : decode cX10_meanDepth 30 = .ok (.iload_n 1, 1) := by decide +kernel
theorem dX10_meanDepth_31 : decode cX10_meanDepth 31 = .ok (.i2f, 1) := by decide +kernel
theorem dX10_meanDepth_32 : decode cX10_meanDepth 32 = .ok (.fdiv, 1) := by decide +kernel
theorem dX10_meanDepth_33 : decode cX10_meanDepth 33 = .ok (.freturn, 1) := by decide +kernel
theorem dX10_rootShare_0 : decode cX10_rootShare 0 = .ok (.aload_n 0, 1) := by decide +kernel
theorem dX10_rootShare_1 : decode cX10_rootShare 1 = .ok (.getfield 10, 3) := by decide +kernel
theorem dX10_rootShare_4 : decode cX10_rootShare 4 = .ok (.getfield 58, 3) := by decide +kernel
theorem dX10_rootShare_7 : decode cX10_rootShare 7 = .ok (.getfield 62, 3) := by decide +kernel
theorem dX10_rootShare_10 : decode cX10_rootShare 10 = .ok (.istore_n 1, 1) := by decide +kernel
theorem dX10_rootShare_11 : decode cX10_rootShare 11 = .ok (.iload_n 1, 1) := by decide +kernel
theorem dX10_rootShare_12 : decode cX10_rootShare 12 = .ok (.ifCond .gt 7, 3) := by decide +kernel
theorem dX10_rootShare_15 : decode cX10_rootShare 15 = .ok (.dconst 0, 1) := by decide +kernel
theorem dX10_rootShare_16 : decode cX10_rootShare 16 = .ok (.goto 17, 3) := by decide +kernel
theorem dX10_rootShare_19 : decode cX10_rootShare 19 = .ok (.aload_n 0, 1) := by decide +kernel
theorem dX10_rootShare_20 : decode cX10_rootShare 20 = .ok (.getfield 10, 3) := by decide +kernel
theorem dX10_rootShare_23 : decode cX10_rootShare 23 = .ok (.getfield 58, 3) := by decide +kernel
theorem dX10_rootShare_26 : decode cX10_rootShare 26 = .ok (.invokevirtual 280, 3) := by decide +kernel
theorem dX10_rootShare_29 : decode cX10_rootShare 29 = .ok (.i2d, 1) := by decide +kernel
theorem dX10_rootShare_30 : decode cX10_rootShare 30 = .ok (.iload_n 1, 1) := by decide +kernel
theorem dX10_rootShare_31 : decode cX10_rootShare 31 = .ok (.i2d, 1) := by decide +kernel
theorem dX10_rootShare_32 : decode cX10_rootShare 32 = .ok (.ddiv, 1) := by decide +kernel
theorem dX10_rootShare_33 : decode cX10_rootShare 33 = .ok (.dreturn, 1) := by decide +kernel
theorem dX10_account_0 : decode cX10_account 0 = .ok (.iload_n 1, 1) := by decide +kernel
theorem dX10_account_1 : decode cX10_account 1 = .ok (.tableswitch 218 0 12 #[67, 80, 93, 103, 116, 126, 139, 149, 159, 172, 185, 198, 208], 67) := by decide +kernel
theorem dX10_account_68 : decode cX10_account 68 = .ok (.aload_n 0, 1) := by decide +kernel
theorem dX10_account_69 : decode cX10_account 69 = .ok (.getfield 10, 3) := by decide +kernel
theorem dX10_account_72 : decode cX10_account 72 = .ok (.getfield 58, 3) := by decide +kernel
theorem dX10_account_75 : decode cX10_account 75 = .ok (.getfield 62, 3) := by decide +kernel
theorem dX10_account_78 : decode cX10_account 78 = .ok (.goto 143, 3) := by decide +kernel
theorem dX10_account_81 : decode cX10_account 81 = .ok (.aload_n 0, 1) := by decide +kernel
theorem dX10_account_82 : decode cX10_account 82 = .ok (.getfield 10, 3) := by decide +kernel
theorem dX10_account_85 : decode cX10_account 85 = .ok (.getfield 58, 3) := by decide +kernel
theorem dX10_account_88 : decode cX10_account 88 = .ok (.invokevirtual 280, 3) := by decide +kernel
theorem dX10_account_91 : decode cX10_account 91 = .ok (.goto 130, 3) := by decide +kernel
theorem dX10_account_94 : decode cX10_account 94 = .ok (.aload_n 0, 1) := by decide +kernel
theorem dX10_account_95 : decode cX10_account 95 = .ok (.getfield 10, 3) := by decide +kernel
theorem dX10_account_98 : decode cX10_account 98 = .ok (.invokevirtual 210, 3) := by decide +kernel
theorem dX10_account_101 : decode cX10_account 101 = .ok (.goto 120, 3) := by decide +kernel
theorem dX10_account_104 : decode cX10_account 104 = .ok (.aload_n 0, 1) := by decide +kernel
theorem dX10_account_105 : decode cX10_account 105 = .ok (.getfield 10, 3) := by decide +kernel
theorem dX10_account_108 : decode cX10_account 108 = .ok (.getfield 58, 3) := by decide +kernel
theorem dX10_account_111 : decode cX10_account 111 = .ok (.invokevirtual 283, 3) := by decide +kernel
theorem dX10_account_114 : decode cX10_account 114 = .ok (.goto 107, 3) := by decide +kernel
theorem dX10_account_117 : decode cX10_account 117 = .ok (.aload_n 0, 1) := by decide +kernel
theorem dX10_account_118 : decode cX10_account 118 = .ok (.getfield 10, 3) := by decide +kernel
theorem dX10_account_121 : decode cX10_account 121 = .ok (.getfield 286, 3) := by decide +kernel
theorem dX10_account_124 : decode cX10_account 124 = .ok (.goto 97, 3) := by decide +kernel
theorem dX10_account_127 : decode cX10_account 127 = .ok (.aload_n 0, 1) := by decide +kernel
theorem dX10_account_128 : decode cX10_account 128 = .ok (.getfield 10, 3) := by decide +kernel
theorem dX10_account_131 : decode cX10_account 131 = .ok (.getfield 177, 3) := by decide +kernel
theorem dX10_account_134 : decode cX10_account 134 = .ok (.getfield 224, 3) := by decide +kernel
theorem dX10_account_137 : decode cX10_account 137 = .ok (.goto 84, 3) := by decide +kernel
theorem dX10_account_140 : decode cX10_account 140 = .ok (.aload_n 0, 1) := by decide +kernel
theorem dX10_account_141 : decode cX10_account 141 = .ok (.getfield 10, 3) := by decide +kernel
theorem dX10_account_144 : decode cX10_account 144 = .ok (.getfield 289, 3) := by decide +kernel
theorem dX10_account_147 : decode cX10_account 147 = .ok (.goto 74, 3) := by decide +kernel
theorem dX10_account_150 : decode cX10_account 150 = .ok (.aload_n 0, 1) := by decide +kernel
theorem dX10_account_151 : decode cX10_account 151 = .ok (.getfield 10, 3) := by decide +kernel
theorem dX10_account_154 : decode cX10_account 154 = .ok (.getfield 292, 3) := by decide +kernel
theorem dX10_account_157 : decode cX10_account 157 = .ok (.goto 64, 3) := by decide +kernel
theorem dX10_account_160 : decode cX10_account 160 = .ok (.aload_n 0, 1) := by decide +kernel
theorem dX10_account_161 : decode cX10_account 161 = .ok (.getfield 10, 3) := by decide +kernel
theorem dX10_account_164 : decode cX10_account 164 = .ok (.getfield 168, 3) := by decide +kernel
theorem dX10_account_167 : decode cX10_account 167 = .ok (.invokevirtual 295, 3) := by decide +kernel
theorem dX10_account_170 : decode cX10_account 170 = .ok (.goto 51, 3) := by decide +kernel
theorem dX10_account_173 : decode cX10_account 173 = .ok (.aload_n 0, 1) := by decide +kernel
theorem dX10_account_174 : decode cX10_account 174 = .ok (.getfield 10, 3) := by decide +kernel
theorem dX10_account_177 : decode cX10_account 177 = .ok (.getfield 168, 3) := by decide +kernel
theorem dX10_account_180 : decode cX10_account 180 = .ok (.invokevirtual 298, 3) := by decide +kernel
theorem dX10_account_183 : decode cX10_account 183 = .ok (.goto 38, 3) := by decide +kernel
theorem dX10_account_186 : decode cX10_account 186 = .ok (.aload_n 0, 1) := by decide +kernel
theorem dX10_account_187 : decode cX10_account 187 = .ok (.getfield 10, 3) := by decide +kernel
theorem dX10_account_190 : decode cX10_account 190 = .ok (.getfield 168, 3) := by decide +kernel
theorem dX10_account_193 : decode cX10_account 193 = .ok (.invokevirtual 301, 3) := by decide +kernel
theorem dX10_account_196 : decode cX10_account 196 = .ok (.goto 25, 3) := by decide +kernel
theorem dX10_account_199 : decode cX10_account 199 = .ok (.aload_n 0, 1) := by decide +kernel
theorem dX10_account_200 : decode cX10_account 200 = .ok (.getfield 32, 3) := by decide +kernel
theorem dX10_account_203 : decode cX10_account 203 = .ok (.getfield 304, 3) := by decide +kernel
theorem dX10_account_206 : decode cX10_account 206 = .ok (.goto 15, 3) := by decide +kernel
theorem dX10_account_209 : decode cX10_account 209 = .ok (.aload_n 0, 1) := by decide +kernel
theorem dX10_account_210 : decode cX10_account 210 = .ok (.getfield 25, 3) := by decide +kernel
theorem dX10_account_213 : decode cX10_account 213 = .ok (.getfield 305, 3) := by decide +kernel
theorem dX10_account_216 : decode cX10_account 216 = .ok (.goto 5, 3) := by decide +kernel
theorem dX10_account_219 : decode cX10_account 219 = .ok (.bipush (-2), 2) := by decide +kernel
theorem dX10_account_221 : decode cX10_account 221 = .ok (.ireturn, 1) := by decide +kernel
theorem dX10_undo_0 : decode cX10_undo 0 = .ok (.aload_n 0, 1) := by decide +kernel
theorem dX10_undo_1 : decode cX10_undo 1 = .ok (.getfield 25, 3) := by decide +kernel
theorem dX10_undo_4 : decode cX10_undo 4 = .ok (.aload_n 0, 1) := by decide +kernel
theorem dX10_undo_5 : decode cX10_undo 5 = .ok (.getfield 10, 3) := by decide +kernel
theorem dX10_undo_8 : decode cX10_undo 8 = .ok (.invokevirtual 306, 3) := by decide +kernel
theorem dX10_undo_11 : decode cX10_undo 11 = .ok (.ifCond .eq 13, 3) := by decide +kernel
theorem dX10_undo_14 : decode cX10_undo 14 = .ok (.aload_n 0, 1) := by decide +kernel
theorem dX10_undo_15 : decode cX10_undo 15 = .ok (.getfield 25, 3) := by decide +kernel
theorem dX10_undo_18 : decode cX10_undo 18 = .ok (.getfield 305, 3) := by decide +kernel
theorem dX10_undo_21 : decode cX10_undo 21 = .ok (.goto 5, 3) := by decide +kernel
theorem dX10_undo_24 : decode cX10_undo 24 = .ok (.bipush (-4), 2) := by decide +kernel
theorem dX10_undo_26 : decode cX10_undo 26 = .ok (.ireturn, 1) := by decide +kernel
theorem dX10_save_0 : decode cX10_save 0 = .ok (.aload_n 0, 1) := by decide +kernel
theorem dX10_save_1 : decode cX10_save 1 = .ok (.getfield 16, 3) := by decide +kernel
theorem dX10_save_4 : decode cX10_save 4 = .ok (.aload_n 0, 1) := by decide +kernel
theorem dX10_save_5 : decode cX10_save 5 = .ok (.getfield 10, 3) := by decide +kernel
theorem dX10_save_8 : decode cX10_save 8 = .ok (.invokevirtual 217, 3) := by decide +kernel
theorem dX10_save_11 : decode cX10_save 11 = .ok (.aload_n 0, 1) := by decide +kernel
theorem dX10_save_12 : decode cX10_save 12 = .ok (.iconst 1, 1) := by decide +kernel
theorem dX10_save_13 : decode cX10_save 13 = .ok (.putfield 54, 3) := by decide +kernel
theorem dX10_save_16 : decode cX10_save 16 = .ok (.aload_n 0, 1) := by decide +kernel
theorem dX10_save_17 : decode cX10_save 17 = .ok (.getfield 10, 3) := by decide +kernel
theorem dX10_save_20 : decode cX10_save 20 = .ok (.getfield 58, 3) := by decide +kernel
theorem dX10_save_23 : decode cX10_save 23 = .ok (.getfield 62, 3) := by decide +kernel
theorem dX10_save_26 : decode cX10_save 26 = .ok (.ireturn, 1) := by decide +kernel
theorem dX10_restore_0 : decode cX10_restore 0 = .ok (.aload_n 0, 1) := by decide +kernel
theorem dX10_restore_1 : decode cX10_restore 1 = .ok (.getfield 54, 3) := by decide +kernel
theorem dX10_restore_4 : decode cX10_restore 4 = .ok (.ifCond .ne 6, 3) := by decide +kernel
theorem dX10_restore_7 : decode cX10_restore 7 = .ok (.bipush (-4), 2) := by decide +kernel
theorem dX10_restore_9 : decode cX10_restore 9 = .ok (.ireturn, 1) := by decide +kernel
theorem dX10_restore_10 : decode cX10_restore 10 = .ok (.aload_n 0, 1) := by decide +kernel
theorem dX10_restore_11 : decode cX10_restore 11 = .ok (.getfield 10, 3) := by decide +kernel
theorem dX10_restore_14 : decode cX10_restore 14 = .ok (.aload_n 0, 1) := by decide +kernel
theorem dX10_restore_15 : decode cX10_restore 15 = .ok (.getfield 16, 3) := by decide +kernel
theorem dX10_restore_18 : decode cX10_restore 18 = .ok (.invokevirtual 217, 3) := by decide +kernel
theorem dX10_restore_21 : decode cX10_restore 21 = .ok (.aload_n 0, 1) := by decide +kernel
theorem dX10_restore_22 : decode cX10_restore 22 = .ok (.getfield 25, 3) := by decide +kernel
theorem dX10_restore_25 : decode cX10_restore 25 = .ok (.invokevirtual 70, 3) := by decide +kernel
theorem dX10_restore_28 : decode cX10_restore 28 = .ok (.aload_n 0, 1) := by decide +kernel
theorem dX10_restore_29 : decode cX10_restore 29 = .ok (.getfield 10, 3) := by decide +kernel
theorem dX10_restore_32 : decode cX10_restore 32 = .ok (.getfield 58, 3) := by decide +kernel
theorem dX10_restore_35 : decode cX10_restore 35 = .ok (.getfield 62, 3) := by decide +kernel
theorem dX10_restore_38 : decode cX10_restore 38 = .ok (.ireturn, 1) := by decide +kernel
theorem dX10_settled_0 : decode cX10_settled 0 = .ok (.iload_n 1, 1) := by decide +kernel
theorem dX10_settled_1 : decode cX10_settled 1 = .ok (.ifCond .lt 10, 3) := by decide +kernel
theorem dX10_settled_4 : decode cX10_settled 4 = .ok (.aload_n 0, 1) := by decide +kernel
theorem dX10_settled_5 : decode cX10_settled 5 = .ok (.getfield 25, 3) := by decide +kernel
theorem dX10_settled_8 : decode cX10_settled 8 = .ok (.invokevirtual 136, 3) := by decide +kernel
theorem dX10_settled_11 : decode cX10_settled 11 = .ok (.iload_n 1, 1) := by decide +kernel
theorem dX10_settled_12 : decode cX10_settled 12 = .ok (.ireturn, 1) := by decide +kernel
theorem dX10_carryOut_0 : decode cX10_carryOut 0 = .ok (.aload_n 0, 1) := by decide +kernel
theorem dX10_carryOut_1 : decode cX10_carryOut 1 = .ok (.getfield 32, 3) := by decide +kernel
theorem dX10_carryOut_4 : decode cX10_carryOut 4 = .ok (.iload_n 1, 1) := by decide +kernel
theorem dX10_carryOut_5 : decode cX10_carryOut 5 = .ok (.invokevirtual 310, 3) := by decide +kernel
theorem dX10_carryOut_8 : decode cX10_carryOut 8 = .ok (.astore_n 2, 1) := by decide +kernel
theorem dX10_carryOut_9 : decode cX10_carryOut 9 = .ok (.aload_n 2, 1) := by decide +kernel
theorem dX10_carryOut_10 : decode cX10_carryOut 10 = .ok (.ifnonnull 5, 3) := by decide +kernel
theorem dX10_carryOut_13 : decode cX10_carryOut 13 = .ok (.iconst (-1), 1) := by decide +kernel
theorem dX10_carryOut_14 : decode cX10_carryOut 14 = .ok (.ireturn, 1) := by decide +kernel
theorem dX10_carryOut_15 : decode cX10_carryOut 15 = .ok (.aload_n 0, 1) := by decide +kernel
theorem dX10_carryOut_16 : decode cX10_carryOut 16 = .ok (.getfield 32, 3) := by decide +kernel
theorem dX10_carryOut_19 : decode cX10_carryOut 19 = .ok (.getfield 314, 3) := by decide +kernel
theorem dX10_carryOut_22 : decode cX10_carryOut 22 = .ok (.iload_n 1, 1) := by decide +kernel
theorem dX10_carryOut_23 : decode cX10_carryOut 23 = .ok (.invokestatic 318, 3) := by decide +kernel
theorem dX10_carryOut_26 : decode cX10_carryOut 26 = .ok (.istore_n 3, 1) := by decide +kernel
theorem dX10_carryOut_27 : decode cX10_carryOut 27 = .ok (.aload_n 0, 1) := by decide +kernel
theorem dX10_carryOut_28 : decode cX10_carryOut 28 = .ok (.getfield 32, 3) := by decide +kernel
theorem dX10_carryOut_31 : decode cX10_carryOut 31 = .ok (.getfield 322, 3) := by decide +kernel
theorem dX10_carryOut_34 : decode cX10_carryOut 34 = .ok (.iload_n 1, 1) := by decide +kernel
theorem dX10_carryOut_35 : decode cX10_carryOut 35 = .ok (.invokestatic 318, 3) := by decide +kernel
theorem dX10_carryOut_38 : decode cX10_carryOut 38 = .ok (.istore 4, 2) := by decide +kernel
theorem dX10_carryOut_40 : decode cX10_carryOut 40 = .ok (.getstatic 325, 3) := by decide +kernel
theorem dX10_carryOut_43 : decode cX10_carryOut 43 = .ok (.aload_n 2, 1) := by decide +kernel
theorem dX10_carryOut_44 : decode cX10_carryOut 44 = .ok (.invokevirtual 330, 3) := by decide +kernel
theorem dX10_carryOut_47 : decode cX10_carryOut 47 = .ok (.iaload, 1) := by decide +kernel
theorem dX10_carryOut_48 : decode cX10_carryOut 48 = .ok (.tableswitch 163 1 8 #[48, 63, 80, 95, 106, 117, 134, 149], 48) := by decide +kernel
theorem dX10_carryOut_96 : decode cX10_carryOut 96 = .ok (.aload_n 0, 1) := by decide +kernel
theorem dX10_carryOut_97 : decode cX10_carryOut 97 = .ok (.getfield 10, 3) := by decide +kernel
theorem dX10_carryOut_100 : decode cX10_carryOut 100 = .ok (.iload_n 3, 1) := by decide +kernel
theorem dX10_carryOut_101 : decode cX10_carryOut 101 = .ok (.aload_n 0, 1) := by decide +kernel
theorem dX10_carryOut_102 : decode cX10_carryOut 102 = .ok (.getfield 46, 3) := by decide +kernel
theorem dX10_carryOut_105 : decode cX10_carryOut 105 = .ok (.invokevirtual 81, 3) := by decide +kernel
theorem dX10_carryOut_108 : decode cX10_carryOut 108 = .ok (.goto 104, 3) := by decide +kernel
theorem dX10_carryOut_111 : decode cX10_carryOut 111 = .ok (.aload_n 0, 1) := by decide +kernel
theorem dX10_carryOut_112 : decode cX10_carryOut 112 = .ok (.getfield 10, 3) := by decide +kernel
theorem dX10_carryOut_115 : decode cX10_carryOut 115 = .ok (.iload_n 3, 1) := by decide +kernel
theorem dX10_carryOut_116 : decode cX10_carryOut 116 = .ok (.iload 4, 2) := by decide +kernel
theorem dX10_carryOut_118 : decode cX10_carryOut 118 = .ok (.aload_n 0, 1) := by decide +kernel
theorem dX10_carryOut_119 : decode cX10_carryOut 119 = .ok (.getfield 46, 3) := by decide +kernel
theorem dX10_carryOut_122 : decode cX10_carryOut 122 = .ok (.invokevirtual 89, 3) := by decide +kernel
theorem dX10_carryOut_125 : decode cX10_carryOut 125 = .ok (.goto 87, 3) := by decide +kernel
theorem dX10_carryOut_128 : decode cX10_carryOut 128 = .ok (.aload_n 0, 1) := by decide +kernel
theorem dX10_carryOut_129 : decode cX10_carryOut 129 = .ok (.getfield 10, 3) := by decide +kernel
theorem dX10_carryOut_132 : decode cX10_carryOut 132 = .ok (.iload_n 3, 1) := by decide +kernel
theorem dX10_carryOut_133 : decode cX10_carryOut 133 = .ok (.aload_n 0, 1) := by decide +kernel
theorem dX10_carryOut_134 : decode cX10_carryOut 134 = .ok (.getfield 46, 3) := by decide +kernel
theorem dX10_carryOut_137 : decode cX10_carryOut 137 = .ok (.invokevirtual 93, 3) := by decide +kernel
theorem dX10_carryOut_140 : decode cX10_carryOut 140 = .ok (.goto 72, 3) := by decide +kernel
theorem dX10_carryOut_143 : decode cX10_carryOut 143 = .ok (.aload_n 0, 1) := by decide +kernel
theorem dX10_carryOut_144 : decode cX10_carryOut 144 = .ok (.getfield 10, 3) := by decide +kernel
theorem dX10_carryOut_147 : decode cX10_carryOut 147 = .ok (.iload_n 3, 1) := by decide +kernel
theorem dX10_carryOut_148 : decode cX10_carryOut 148 = .ok (.invokevirtual 96, 3) := by decide +kernel
theorem dX10_carryOut_151 : decode cX10_carryOut 151 = .ok (.goto 61, 3) := by decide +kernel
theorem dX10_carryOut_154 : decode cX10_carryOut 154 = .ok (.aload_n 0, 1) := by decide +kernel
theorem dX10_carryOut_155 : decode cX10_carryOut 155 = .ok (.getfield 10, 3) := by decide +kernel
theorem dX10_carryOut_158 : decode cX10_carryOut 158 = .ok (.iload_n 3, 1) := by decide +kernel
theorem dX10_carryOut_159 : decode cX10_carryOut 159 = .ok (.invokevirtual 99, 3) := by decide +kernel
theorem dX10_carryOut_162 : decode cX10_carryOut 162 = .ok (.goto 50, 3) := by decide +kernel
theorem dX10_carryOut_165 : decode cX10_carryOut 165 = .ok (.aload_n 0, 1) := by decide +kernel
theorem dX10_carryOut_166 : decode cX10_carryOut 166 = .ok (.getfield 10, 3) := by decide +kernel
theorem dX10_carryOut_169 : decode cX10_carryOut 169 = .ok (.iload_n 3, 1) := by decide +kernel
theorem dX10_carryOut_170 : decode cX10_carryOut 170 = .ok (.iload 4, 2) := by decide +kernel
theorem dX10_carryOut_172 : decode cX10_carryOut 172 = .ok (.aload_n 0, 1) := by decide +kernel
theorem dX10_carryOut_173 : decode cX10_carryOut 173 = .ok (.getfield 46, 3) := by decide +kernel
theorem dX10_carryOut_176 : decode cX10_carryOut 176 = .ok (.invokevirtual 102, 3) := by decide +kernel
theorem dX10_carryOut_179 : decode cX10_carryOut 179 = .ok (.goto 33, 3) := by decide +kernel
theorem dX10_carryOut_182 : decode cX10_carryOut 182 = .ok (.aload_n 0, 1) := by decide +kernel
theorem dX10_carryOut_183 : decode cX10_carryOut 183 = .ok (.getfield 10, 3) := by decide +kernel
theorem dX10_carryOut_186 : decode cX10_carryOut 186 = .ok (.iload_n 3, 1) := by decide +kernel
theorem dX10_carryOut_187 : decode cX10_carryOut 187 = .ok (.aload_n 0, 1) := by decide +kernel
theorem dX10_carryOut_188 : decode cX10_carryOut 188 = .ok (.getfield 46, 3) := by decide +kernel
theorem dX10_carryOut_191 : decode cX10_carryOut 191 = .ok (.invokevirtual 105, 3) := by decide +kernel
theorem dX10_carryOut_194 : decode cX10_carryOut 194 = .ok (.goto 18, 3) := by decide +kernel
theorem dX10_carryOut_197 : decode cX10_carryOut 197 = .ok (.aload_n 0, 1) := by decide +kernel
theorem dX10_carryOut_198 : decode cX10_carryOut 198 = .ok (.getfield 10, 3) := by decide +kernel
theorem dX10_carryOut_201 : decode cX10_carryOut 201 = .ok (.aload_n 0, 1) := by decide +kernel
theorem dX10_carryOut_202 : decode cX10_carryOut 202 = .ok (.getfield 46, 3) := by decide +kernel
theorem dX10_carryOut_205 : decode cX10_carryOut 205 = .ok (.invokevirtual 108, 3) := by decide +kernel
theorem dX10_carryOut_208 : decode cX10_carryOut 208 = .ok (.goto 4, 3) := by decide +kernel
theorem dX10_carryOut_211 : decode cX10_carryOut 211 = .ok (.iconst (-1), 1) := by decide +kernel
theorem dX10_carryOut_212 : decode cX10_carryOut 212 = .ok (.ireturn, 1) := by decide +kernel
theorem dX10_writeTree_0 : decode cX10_writeTree 0 = .ok (.iload_n 2, 1) := by decide +kernel
theorem dX10_writeTree_1 : decode cX10_writeTree 1 = .ok (.ifCond .lt 9, 3) := by decide +kernel
theorem dX10_writeTree_4 : decode cX10_writeTree 4 = .ok (.iload_n 3, 1) := by decide +kernel
theorem dX10_writeTree_5 : decode cX10_writeTree 5 = .ok (.bipush 16, 2) := by decide +kernel
theorem dX10_writeTree_7 : decode cX10_writeTree 7 = .ok (.if_icmp .lt 4, 3) := by decide +kernel
theorem dX10_writeTree_10 : decode cX10_writeTree 10 = .ok (.return_, 1) := by decide +kernel
theorem dX10_writeTree_11 : decode cX10_writeTree 11 = .ok (.aload_n 0, 1) := by decide +kernel
theorem dX10_writeTree_12 : decode cX10_writeTree 12 = .ok (.bipush 40, 2) := by decide +kernel
theorem dX10_writeTree_14 : decode cX10_writeTree 14 = .ok (.invokevirtual 261, 3) := by decide +kernel
theorem dX10_writeTree_17 : decode cX10_writeTree 17 = .ok (.aload_n 0, 1) := by decide +kernel
theorem dX10_writeTree_18 : decode cX10_writeTree 18 = .ok (.aload_n 1, 1) := by decide +kernel
theorem dX10_writeTree_19 : decode cX10_writeTree 19 = .ok (.aload_n 1, 1) := by decide +kernel
theorem dX10_writeTree_20 : decode cX10_writeTree 20 = .ok (.iload_n 2, 1) := by decide +kernel
theorem dX10_writeTree_21 : decode cX10_writeTree 21 = .ok (.invokevirtual 181, 3) := by decide +kernel
theorem dX10_writeTree_24 : decode cX10_writeTree 24 = .ok (.iload_n 3, 1) := by decide +kernel
theorem dX10_writeTree_25 : decode cX10_writeTree 25 = .ok (.iconst 1, 1) := by decide +kernel
theorem dX10_writeTree_26 : decode cX10_writeTree 26 = .ok (.iadd, 1) := by decide +kernel
theorem dX10_writeTree_27 : decode cX10_writeTree 27 = .ok (.invokestatic 251, 3) := by decide +kernel
theorem dX10_writeTree_30 : decode cX10_writeTree 30 = .ok (.aload_n 0, 1) := by decide +kernel
theorem dX10_writeTree_31 : decode cX10_writeTree 31 = .ok (.iload_n 2, 1) := by decide +kernel
theorem dX10_writeTree_32 : decode cX10_writeTree 32 = .ok (.invokevirtual 335, 3) := by decide +kernel
theorem dX10_writeTree_35 : decode cX10_writeTree 35 = .ok (.aload_n 0, 1) := by decide +kernel
theorem dX10_writeTree_36 : decode cX10_writeTree 36 = .ok (.aload_n 1, 1) := by decide +kernel
theorem dX10_writeTree_37 : decode cX10_writeTree 37 = .ok (.aload_n 1, 1) := by decide +kernel
theorem dX10_writeTree_38 : decode cX10_writeTree 38 = .ok (.iload_n 2, 1) := by decide +kernel
theorem dX10_writeTree_39 : decode cX10_writeTree 39 = .ok (.invokevirtual 186, 3) := by decide +kernel
theorem dX10_writeTree_42 : decode cX10_writeTree 42 = .ok (.iload_n 3, 1) := by decide +kernel
theorem dX10_writeTree_43 : decode cX10_writeTree 43 = .ok (.iconst 1, 1) := by decide +kernel
theorem dX10_writeTree_44 : decode cX10_writeTree 44 = .ok (.iadd, 1) := by decide +kernel
theorem dX10_writeTree_45 : decode cX10_writeTree 45 = .ok (.invokestatic 251, 3) := by decide +kernel
theorem dX10_writeTree_48 : decode cX10_writeTree 48 = .ok (.aload_n 0, 1) := by decide +kernel
theorem dX10_writeTree_49 : decode cX10_writeTree 49 = .ok (.bipush 41, 2) := by decide +kernel
theorem dX10_writeTree_51 : decode cX10_writeTree 51 = .ok (.invokevirtual 261, 3) := by decide +kernel
theorem dX10_writeTree_54 : decode cX10_writeTree 54 = .ok (.return_, 1) := by decide +kernel
theorem dX10_writeRope_0 : decode cX10_writeRope 0 = .ok (.aload_n 0, 1) := by decide +kernel
theorem dX10_writeRope_1 : decode cX10_writeRope 1 = .ok (.getfield 39, 3) := by decide +kernel
theorem dX10_writeRope_4 : decode cX10_writeRope 4 = .ok (.iload_n 1, 1) := by decide +kernel
theorem dX10_writeRope_5 : decode cX10_writeRope 5 = .ok (.invokevirtual 335, 3) := by decide +kernel
theorem dX10_writeRope_8 : decode cX10_writeRope 8 = .ok (.aload_n 0, 1) := by decide +kernel
theorem dX10_writeRope_9 : decode cX10_writeRope 9 = .ok (.getfield 10, 3) := by decide +kernel
theorem dX10_writeRope_12 : decode cX10_writeRope 12 = .ok (.getfield 177, 3) := by decide +kernel
theorem dX10_writeRope_15 : decode cX10_writeRope 15 = .ok (.iload_n 1, 1) := by decide +kernel
theorem dX10_writeRope_16 : decode cX10_writeRope 16 = .ok (.invokevirtual 338, 3) := by decide +kernel
theorem dX10_writeRope_19 : decode cX10_writeRope 19 = .ok (.istore_n 2, 1) := by decide +kernel
theorem dX10_writeRope_20 : decode cX10_writeRope 20 = .ok (.iconst 0, 1) := by decide +kernel
theorem dX10_writeRope_21 : decode cX10_writeRope 21 = .ok (.istore_n 3, 1) := by decide +kernel
theorem dX10_writeRope_22 : decode cX10_writeRope 22 = .ok (.iload_n 3, 1) := by decide +kernel
theorem dX10_writeRope_23 : decode cX10_writeRope 23 = .ok (.bipush 16, 2) := by decide +kernel
theorem dX10_writeRope_25 : decode cX10_writeRope 25 = .ok (.if_icmp .ge 42, 3) := by decide +kernel
theorem dX10_writeRope_28 : decode cX10_writeRope 28 = .ok (.iload_n 2, 1) := by decide +kernel
theorem dX10_writeRope_29 : decode cX10_writeRope 29 = .ok (.ifCond .lt 38, 3) := by decide +kernel
theorem dX10_writeRope_32 : decode cX10_writeRope 32 = .ok (.aload_n 0, 1) := by decide +kernel
theorem dX10_writeRope_33 : decode cX10_writeRope 33 = .ok (.getfield 39, 3) := by decide +kernel
theorem dX10_writeRope_36 : decode cX10_writeRope 36 = .ok (.bipush 45, 2) := by decide +kernel
theorem dX10_writeRope_38 : decode cX10_writeRope 38 = .ok (.invokevirtual 261, 3) := by decide +kernel
theorem dX10_writeRope_41 : decode cX10_writeRope 41 = .ok (.aload_n 0, 1) := by decide +kernel
theorem dX10_writeRope_42 : decode cX10_writeRope 42 = .ok (.getfield 39, 3) := by decide +kernel
theorem dX10_writeRope_45 : decode cX10_writeRope 45 = .ok (.iload_n 2, 1) := by decide +kernel
theorem dX10_writeRope_46 : decode cX10_writeRope 46 = .ok (.invokevirtual 335, 3) := by decide +kernel
theorem dX10_writeRope_49 : decode cX10_writeRope 49 = .ok (.aload_n 0, 1) := by decide +kernel
theorem dX10_writeRope_50 : decode cX10_writeRope 50 = .ok (.getfield 10, 3) := by decide +kernel
theorem dX10_writeRope_53 : decode cX10_writeRope 53 = .ok (.getfield 177, 3) := by decide +kernel
theorem dX10_writeRope_56 : decode cX10_writeRope 56 = .ok (.iload_n 2, 1) := by decide +kernel
theorem dX10_writeRope_57 : decode cX10_writeRope 57 = .ok (.invokevirtual 338, 3) := by decide +kernel
theorem dX10_writeRope_60 : decode cX10_writeRope 60 = .ok (.istore_n 2, 1) := by decide +kernel
theorem dX10_writeRope_61 : decode cX10_writeRope 61 = .ok (.iinc 3 1, 3) := by decide +kernel
theorem dX10_writeRope_64 : decode cX10_writeRope 64 = .ok (.goto (-42), 3) := by decide +kernel
theorem dX10_writeRope_67 : decode cX10_writeRope 67 = .ok (.return_, 1) := by decide +kernel
theorem dX10_orNothing_0 : decode cX10_orNothing 0 = .ok (.iload_n 0, 1) := by decide +kernel
theorem dX10_orNothing_1 : decode cX10_orNothing 1 = .ok (.ifCond .ge 8, 3) := by decide +kernel
theorem dX10_orNothing_4 : decode cX10_orNothing 4 = .ok (.bipush (-4), 2) := by decide +kernel
theorem dX10_orNothing_6 : decode cX10_orNothing 6 = .ok (.goto 4, 3) := by decide +kernel
theorem dX10_orNothing_9 : decode cX10_orNothing 9 = .ok (.iload_n 0, 1) := by decide +kernel
theorem dX10_orNothing_10 : decode cX10_orNothing 10 = .ok (.ireturn, 1) := by decide +kernel
theorem dX10_at_0 : decode cX10_at 0 = .ok (.aload_n 0, 1) := by decide +kernel
theorem dX10_at_1 : decode cX10_at 1 = .ok (.ifnull 19, 3) := by decide +kernel
theorem dX10_at_4 : decode cX10_at 4 = .ok (.iload_n 1, 1) := by decide +kernel
theorem dX10_at_5 : decode cX10_at 5 = .ok (.ifCond .lt 15, 3) := by decide +kernel
theorem dX10_at_8 : decode cX10_at 8 = .ok (.iload_n 1, 1) := by decide +kernel
theorem dX10_at_9 : decode cX10_at 9 = .ok (.aload_n 0, 1) := by decide +kernel
theorem dX10_at_10 : decode cX10_at 10 = .ok (.arraylength, 1) := by decide +kernel
theorem dX10_at_11 : decode cX10_at 11 = .ok (.if_icmp .ge 9, 3) := by decide +kernel
theorem dX10_at_14 : decode cX10_at 14 = .ok (.aload_n 0, 1) := by decide +kernel
theorem dX10_at_15 : decode cX10_at 15 = .ok (.iload_n 1, 1) := by decide +kernel
theorem dX10_at_16 : decode cX10_at 16 = .ok (.iaload, 1) := by decide +kernel
theorem dX10_at_17 : decode cX10_at 17 = .ok (.goto 4, 3) := by decide +kernel
theorem dX10_at_20 : decode cX10_at 20 = .ok (.iconst (-1), 1) := by decide +kernel
theorem dX10_at_21 : decode cX10_at 21 = .ok (.ireturn, 1) := by decide +kernel
theorem dX10_put_0 : decode cX10_put 0 = .ok (.aload_n 0, 1) := by decide +kernel
theorem dX10_put_1 : decode cX10_put 1 = .ok (.ifnull 17, 3) := by decide +kernel
theorem dX10_put_4 : decode cX10_put 4 = .ok (.iload_n 1, 1) := by decide +kernel
theorem dX10_put_5 : decode cX10_put 5 = .ok (.ifCond .lt 13, 3) := by decide +kernel
theorem dX10_put_8 : decode cX10_put 8 = .ok (.iload_n 1, 1) := by decide +kernel
theorem dX10_put_9 : decode cX10_put 9 = .ok (.aload_n 0, 1) := by decide +kernel
theorem dX10_put_10 : decode cX10_put 10 = .ok (.arraylength, 1) := by decide +kernel
theorem dX10_put_11 : decode cX10_put 11 = .ok (.if_icmp .ge 7, 3) := by decide +kernel
theorem dX10_put_14 : decode cX10_put 14 = .ok (.aload_n 0, 1) := by decide +kernel
theorem dX10_put_15 : decode cX10_put 15 = .ok (.iload_n 1, 1) := by decide +kernel
theorem dX10_put_16 : decode cX10_put 16 = .ok (.iload_n 2, 1) := by decide +kernel
theorem dX10_put_17 : decode cX10_put 17 = .ok (.iastore, 1) := by decide +kernel
theorem dX10_put_18 : decode cX10_put 18 = .ok (.return_, 1) := by decide +kernel
theorem dX10_fill_0 : decode cX10_fill 0 = .ok (.iconst 0, 1) := by decide +kernel
theorem dX10_fill_1 : decode cX10_fill 1 = .ok (.istore_n 2, 1) := by decide +kernel
theorem dX10_fill_2 : decode cX10_fill 2 = .ok (.aload_n 0, 1) := by decide +kernel
theorem dX10_fill_3 : decode cX10_fill 3 = .ok (.ifnull 19, 3) := by decide +kernel
theorem dX10_fill_6 : decode cX10_fill 6 = .ok (.iload_n 2, 1) := by decide +kernel
theorem dX10_fill_7 : decode cX10_fill 7 = .ok (.aload_n 0, 1) := by decide +kernel
theorem dX10_fill_8 : decode cX10_fill 8 = .ok (.arraylength, 1) := by decide +kernel
theorem dX10_fill_9 : decode cX10_fill 9 = .ok (.if_icmp .ge 13, 3) := by decide +kernel
theorem dX10_fill_12 : decode cX10_fill 12 = .ok (.aload_n 0, 1) := by decide +kernel
theorem dX10_fill_13 : decode cX10_fill 13 = .ok (.iload_n 2, 1) := by decide +kernel
theorem dX10_fill_14 : decode cX10_fill 14 = .ok (.iload_n 1, 1) := by decide +kernel
theorem dX10_fill_15 : decode cX10_fill 15 = .ok (.iastore, 1) := by decide +kernel
theorem dX10_fill_16 : decode cX10_fill 16 = .ok (.iinc 2 1, 3) := by decide +kernel
theorem dX10_fill_19 : decode cX10_fill 19 = .ok (.goto (-17), 3) := by decide +kernel
theorem dX10_fill_22 : decode cX10_fill 22 = .ok (.return_, 1) := by decide +kernel
theorem dX10_copyRow_0 : decode cX10_copyRow 0 = .ok (.iconst 0, 1) := by decide +kernel
theorem dX10_copyRow_1 : decode cX10_copyRow 1 = .ok (.istore_n 2, 1) := by decide +kernel
theorem dX10_copyRow_2 : decode cX10_copyRow 2 = .ok (.aload_n 1, 1) := by decide +kernel
theorem dX10_copyRow_3 : decode cX10_copyRow 3 = .ok (.ifnull 23, 3) := by decide +kernel
theorem dX10_copyRow_6 : decode cX10_copyRow 6 = .ok (.iload_n 2, 1) := by decide +kernel
theorem dX10_copyRow_7 : decode cX10_copyRow 7 = .ok (.aload_n 1, 1) := by decide +kernel
theorem dX10_copyRow_8 : decode cX10_copyRow 8 = .ok (.arraylength, 1) := by decide +kernel
theorem dX10_copyRow_9 : decode cX10_copyRow 9 = .ok (.if_icmp .ge 17, 3) := by decide +kernel
theorem dX10_copyRow_12 : decode cX10_copyRow 12 = .ok (.aload_n 1, 1) := by decide +kernel
theorem dX10_copyRow_13 : decode cX10_copyRow 13 = .ok (.iload_n 2, 1) := by decide +kernel
theorem dX10_copyRow_14 : decode cX10_copyRow 14 = .ok (.aload_n 0, 1) := by decide +kernel
theorem dX10_copyRow_15 : decode cX10_copyRow 15 = .ok (.iload_n 2, 1) := by decide +kernel
theorem dX10_copyRow_16 : decode cX10_copyRow 16 = .ok (.invokestatic 318, 3) := by decide +kernel
theorem dX10_copyRow_19 : decode cX10_copyRow 19 = .ok (.iastore, 1) := by decide +kernel
theorem dX10_copyRow_20 : decode cX10_copyRow 20 = .ok (.iinc 2 1, 3) := by decide +kernel
theorem dX10_copyRow_23 : decode cX10_copyRow 23 = .ok (.goto (-21), 3) := by decide +kernel
theorem dX10_copyRow_26 : decode cX10_copyRow 26 = .ok (.return_, 1) := by decide +kernel
theorem dX10_lastAlong_0 : decode cX10_lastAlong 0 = .ok (.iload_n 1, 1) := by decide +kernel
theorem dX10_lastAlong_1 : decode cX10_lastAlong 1 = .ok (.istore_n 2, 1) := by decide +kernel
theorem dX10_lastAlong_2 : decode cX10_lastAlong 2 = .ok (.iconst 0, 1) := by decide +kernel
theorem dX10_lastAlong_3 : decode cX10_lastAlong 3 = .ok (.istore_n 3, 1) := by decide +kernel
theorem dX10_lastAlong_4 : decode cX10_lastAlong 4 = .ok (.iload_n 3, 1) := by decide +kernel
theorem dX10_lastAlong_5 : decode cX10_lastAlong 5 = .ok (.bipush 16, 2) := by decide +kernel
theorem dX10_lastAlong_7 : decode cX10_lastAlong 7 = .ok (.if_icmp .ge 23, 3) := by decide +kernel
theorem dX10_lastAlong_10 : decode cX10_lastAlong 10 = .ok (.aload_n 0, 1) := by decide +kernel
theorem dX10_lastAlong_11 : decode cX10_lastAlong 11 = .ok (.iload_n 2, 1) := by decide +kernel
theorem dX10_lastAlong_12 : decode cX10_lastAlong 12 = .ok (.invokestatic 318, 3) := by decide +kernel
theorem dX10_lastAlong_15 : decode cX10_lastAlong 15 = .ok (.ifCond .lt 15, 3) := by decide +kernel
theorem dX10_lastAlong_18 : decode cX10_lastAlong 18 = .ok (.aload_n 0, 1) := by decide +kernel
theorem dX10_lastAlong_19 : decode cX10_lastAlong 19 = .ok (.iload_n 2, 1) := by decide +kernel
theorem dX10_lastAlong_20 : decode cX10_lastAlong 20 = .ok (.invokestatic 318, 3) := by decide +kernel
theorem dX10_lastAlong_23 : decode cX10_lastAlong 23 = .ok (.istore_n 2, 1) := by decide +kernel
theorem dX10_lastAlong_24 : decode cX10_lastAlong 24 = .ok (.iinc 3 1, 3) := by decide +kernel
theorem dX10_lastAlong_27 : decode cX10_lastAlong 27 = .ok (.goto (-23), 3) := by decide +kernel
theorem dX10_lastAlong_30 : decode cX10_lastAlong 30 = .ok (.iload_n 2, 1) := by decide +kernel
theorem dX10_lastAlong_31 : decode cX10_lastAlong 31 = .ok (.ireturn, 1) := by decide +kernel
theorem dX10_stepsAlong_0 : decode cX10_stepsAlong 0 = .ok (.iconst 0, 1) := by decide +kernel
theorem dX10_stepsAlong_1 : decode cX10_stepsAlong 1 = .ok (.istore_n 2, 1) := by decide +kernel
theorem dX10_stepsAlong_2 : decode cX10_stepsAlong 2 = .ok (.aload_n 0, 1) := by decide +kernel
theorem dX10_stepsAlong_3 : decode cX10_stepsAlong 3 = .ok (.iload_n 1, 1) := by decide +kernel
theorem dX10_stepsAlong_4 : decode cX10_stepsAlong 4 = .ok (.invokestatic 318, 3) := by decide +kernel
theorem dX10_stepsAlong_7 : decode cX10_stepsAlong 7 = .ok (.istore_n 3, 1) := by decide +kernel
theorem dX10_stepsAlong_8 : decode cX10_stepsAlong 8 = .ok (.iload_n 2, 1) := by decide +kernel
theorem dX10_stepsAlong_9 : decode cX10_stepsAlong 9 = .ok (.bipush 16, 2) := by decide +kernel
theorem dX10_stepsAlong_11 : decode cX10_stepsAlong 11 = .ok (.if_icmp .ge 19, 3) := by decide +kernel
theorem dX10_stepsAlong_14 : decode cX10_stepsAlong 14 = .ok (.iload_n 3, 1) := by decide +kernel
theorem dX10_stepsAlong_15 : decode cX10_stepsAlong 15 = .ok (.ifCond .lt 15, 3) := by decide +kernel
theorem dX10_stepsAlong_18 : decode cX10_stepsAlong 18 = .ok (.iinc 2 1, 3) := by decide +kernel
theorem dX10_stepsAlong_21 : decode cX10_stepsAlong 21 = .ok (.aload_n 0, 1) := by decide +kernel
theorem dX10_stepsAlong_22 : decode cX10_stepsAlong 22 = .ok (.iload_n 3, 1) := by decide +kernel
theorem dX10_stepsAlong_23 : decode cX10_stepsAlong 23 = .ok (.invokestatic 318, 3) := by decide +kernel
theorem dX10_stepsAlong_26 : decode cX10_stepsAlong 26 = .ok (.istore_n 3, 1) := by decide +kernel
theorem dX10_stepsAlong_27 : decode cX10_stepsAlong 27 = .ok (.goto (-19), 3) := by decide +kernel
theorem dX10_stepsAlong_30 : decode cX10_stepsAlong 30 = .ok (.iload_n 2, 1) := by decide +kernel
theorem dX10_stepsAlong_31 : decode cX10_stepsAlong 31 = .ok (.ireturn, 1) := by decide +kernel
theorem dX10_isAlong_0 : decode cX10_isAlong 0 = .ok (.iload_n 1, 1) := by decide +kernel
theorem dX10_isAlong_1 : decode cX10_isAlong 1 = .ok (.istore_n 3, 1) := by decide +kernel
theorem dX10_isAlong_2 : decode cX10_isAlong 2 = .ok (.iconst 0, 1) := by decide +kernel
theorem dX10_isAlong_3 : decode cX10_isAlong 3 = .ok (.istore 4, 2) := by decide +kernel
theorem dX10_isAlong_5 : decode cX10_isAlong 5 = .ok (.iload 4, 2) := by decide +kernel
theorem dX10_isAlong_7 : decode cX10_isAlong 7 = .ok (.bipush 16, 2) := by decide +kernel
theorem dX10_isAlong_9 : decode cX10_isAlong 9 = .ok (.if_icmp .ge 26, 3) := by decide +kernel
theorem dX10_isAlong_12 : decode cX10_isAlong 12 = .ok (.iload_n 3, 1) := by decide +kernel
theorem dX10_isAlong_13 : decode cX10_isAlong 13 = .ok (.ifCond .lt 22, 3) := by decide +kernel
theorem dX10_isAlong_16 : decode cX10_isAlong 16 = .ok (.iload_n 3, 1) := by decide +kernel
theorem dX10_isAlong_17 : decode cX10_isAlong 17 = .ok (.iload_n 2, 1) := by decide +kernel
theorem dX10_isAlong_18 : decode cX10_isAlong 18 = .ok (.if_icmp .ne 5, 3) := by decide +kernel
theorem dX10_isAlong_21 : decode cX10_isAlong 21 = .ok (.iconst 1, 1) := by decide +kernel
theorem dX10_isAlong_22 : decode cX10_isAlong 22 = .ok (.ireturn, 1) := by decide +kernel
theorem dX10_isAlong_23 : decode cX10_isAlong 23 = .ok (.aload_n 0, 1) := by decide +kernel
theorem dX10_isAlong_24 : decode cX10_isAlong 24 = .ok (.iload_n 3, 1) := by decide +kernel
theorem dX10_isAlong_25 : decode cX10_isAlong 25 = .ok (.invokestatic 318, 3) := by decide +kernel
theorem dX10_isAlong_28 : decode cX10_isAlong 28 = .ok (.istore_n 3, 1) := by decide +kernel
theorem dX10_isAlong_29 : decode cX10_isAlong 29 = .ok (.iinc 4 1, 3) := by decide +kernel
theorem dX10_isAlong_32 : decode cX10_isAlong 32 = .ok (.goto (-27), 3) := by decide +kernel
theorem dX10_isAlong_35 : decode cX10_isAlong 35 = .ok (.iconst 0, 1) := by decide +kernel
theorem dX10_isAlong_36 : decode cX10_isAlong 36 = .ok (.ireturn, 1) := by decide +kernel
