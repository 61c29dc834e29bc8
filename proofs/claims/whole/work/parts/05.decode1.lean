theorem dE_spanOf_0 : decode cE_spanOf 0 = .ok (.iload_n 1, 1) := by decide +kernel
theorem dE_spanOf_1 : decode cE_spanOf 1 = .ok (.ifCond .lt 19, 3) := by decide +kernel
theorem dE_spanOf_4 : decode cE_spanOf 4 = .ok (.iload_n 1, 1) := by decide +kernel
theorem dE_spanOf_5 : decode cE_spanOf 5 = .ok (.sipush 8192, 3) := by decide +kernel
theorem dE_spanOf_8 : decode cE_spanOf 8 = .ok (.if_icmp .ge 12, 3) := by decide +kernel
theorem dE_spanOf_11 : decode cE_spanOf 11 = .ok (.aload_n 0, 1) := by decide +kernel
theorem dE_spanOf_12 : decode cE_spanOf 12 = .ok (.getfield 21, 3) := by decide +kernel
theorem dE_spanOf_15 : decode cE_spanOf 15 = .ok (.iload_n 1, 1) := by decide +kernel
theorem dE_spanOf_16 : decode cE_spanOf 16 = .ok (.aaload, 1) := by decide +kernel
theorem dE_spanOf_17 : decode cE_spanOf 17 = .ok (.ifnonnull 11, 3) := by decide +kernel
theorem dE_spanOf_20 : decode cE_spanOf 20 = .ok (.new 121, 3) := by decide +kernel
theorem dE_spanOf_23 : decode cE_spanOf 23 = .ok (.dup, 1) := by decide +kernel
theorem dE_spanOf_24 : decode cE_spanOf 24 = .ok (.invokespecial 123, 3) := by decide +kernel
theorem dE_spanOf_27 : decode cE_spanOf 27 = .ok (.athrow, 1) := by decide +kernel
theorem dE_spanOf_28 : decode cE_spanOf 28 = .ok (.aload_n 0, 1) := by decide +kernel
theorem dE_spanOf_29 : decode cE_spanOf 29 = .ok (.getfield 21, 3) := by decide +kernel
theorem dE_spanOf_32 : decode cE_spanOf 32 = .ok (.iload_n 1, 1) := by decide +kernel
theorem dE_spanOf_33 : decode cE_spanOf 33 = .ok (.aaload, 1) := by decide +kernel
theorem dE_spanOf_34 : decode cE_spanOf 34 = .ok (.areturn, 1) := by decide +kernel
theorem dS_seenAt_0 : decode cS_seenAt 0 = .ok (.iload_n 2, 1) := by decide +kernel
theorem dS_seenAt_1 : decode cS_seenAt 1 = .ok (.aload_n 0, 1) := by decide +kernel
theorem dS_seenAt_2 : decode cS_seenAt 2 = .ok (.getfield 7, 3) := by decide +kernel
theorem dS_seenAt_5 : decode cS_seenAt 5 = .ok (.getfield 57, 3) := by decide +kernel
theorem dS_seenAt_8 : decode cS_seenAt 8 = .ok (.if_icmp .ne 13, 3) := by decide +kernel
theorem dS_seenAt_11 : decode cS_seenAt 11 = .ok (.aload_n 0, 1) := by decide +kernel
theorem dS_seenAt_12 : decode cS_seenAt 12 = .ok (.iload_n 1, 1) := by decide +kernel
theorem dS_seenAt_13 : decode cS_seenAt 13 = .ok (.invokevirtual 53, 3) := by decide +kernel
theorem dS_seenAt_16 : decode cS_seenAt 16 = .ok (.iconst 1, 1) := by decide +kernel
theorem dS_seenAt_17 : decode cS_seenAt 17 = .ok (.iadd, 1) := by decide +kernel
theorem dS_seenAt_18 : decode cS_seenAt 18 = .ok (.goto 9, 3) := by decide +kernel
theorem dS_seenAt_21 : decode cS_seenAt 21 = .ok (.aload_n 0, 1) := by decide +kernel
theorem dS_seenAt_22 : decode cS_seenAt 22 = .ok (.getfield 32, 3) := by decide +kernel
theorem dS_seenAt_25 : decode cS_seenAt 25 = .ok (.iload_n 2, 1) := by decide +kernel
theorem dS_seenAt_26 : decode cS_seenAt 26 = .ok (.iaload, 1) := by decide +kernel
theorem dS_seenAt_27 : decode cS_seenAt 27 = .ok (.ireturn, 1) := by decide +kernel
theorem dE_holdsAncestor_0 : decode cE_holdsAncestor 0 = .ok (.aload_n 1, 1) := by decide +kernel
theorem dE_holdsAncestor_1 : decode cE_holdsAncestor 1 = .ok (.astore_n 2, 1) := by decide +kernel
theorem dE_holdsAncestor_2 : decode cE_holdsAncestor 2 = .ok (.aload_n 2, 1) := by decide +kernel
theorem dE_holdsAncestor_3 : decode cE_holdsAncestor 3 = .ok (.arraylength, 1) := by decide +kernel
theorem dE_holdsAncestor_4 : decode cE_holdsAncestor 4 = .ok (.istore_n 3, 1) := by decide +kernel
theorem dE_holdsAncestor_5 : decode cE_holdsAncestor 5 = .ok (.iconst 0, 1) := by decide +kernel
theorem dE_holdsAncestor_6 : decode cE_holdsAncestor 6 = .ok (.istore 4, 2) := by decide +kernel
theorem dE_holdsAncestor_8 : decode cE_holdsAncestor 8 = .ok (.iload 4, 2) := by decide +kernel
theorem dE_holdsAncestor_10 : decode cE_holdsAncestor 10 = .ok (.iload_n 3, 1) := by decide +kernel
theorem dE_holdsAncestor_11 : decode cE_holdsAncestor 11 = .ok (.if_icmp .ge 59, 3) := by decide +kernel
theorem dE_holdsAncestor_14 : decode cE_holdsAncestor 14 = .ok (.aload_n 2, 1) := by decide +kernel
theorem dE_holdsAncestor_15 : decode cE_holdsAncestor 15 = .ok (.iload 4, 2) := by decide +kernel
theorem dE_holdsAncestor_17 : decode cE_holdsAncestor 17 = .ok (.iaload, 1) := by decide +kernel
theorem dE_holdsAncestor_18 : decode cE_holdsAncestor 18 = .ok (.istore 5, 2) := by decide +kernel
theorem dE_holdsAncestor_20 : decode cE_holdsAncestor 20 = .ok (.aload_n 1, 1) := by decide +kernel
theorem dE_holdsAncestor_21 : decode cE_holdsAncestor 21 = .ok (.astore 6, 2) := by decide +kernel
theorem dE_holdsAncestor_23 : decode cE_holdsAncestor 23 = .ok (.aload 6, 2) := by decide +kernel
theorem dE_holdsAncestor_25 : decode cE_holdsAncestor 25 = .ok (.arraylength, 1) := by decide +kernel
theorem dE_holdsAncestor_26 : decode cE_holdsAncestor 26 = .ok (.istore 7, 2) := by decide +kernel
theorem dE_holdsAncestor_28 : decode cE_holdsAncestor 28 = .ok (.iconst 0, 1) := by decide +kernel
theorem dE_holdsAncestor_29 : decode cE_holdsAncestor 29 = .ok (.istore 8, 2) := by decide +kernel
theorem dE_holdsAncestor_31 : decode cE_holdsAncestor 31 = .ok (.iload 8, 2) := by decide +kernel
theorem dE_holdsAncestor_33 : decode cE_holdsAncestor 33 = .ok (.iload 7, 2) := by decide +kernel
theorem dE_holdsAncestor_35 : decode cE_holdsAncestor 35 = .ok (.if_icmp .ge 29, 3) := by decide +kernel
theorem dE_holdsAncestor_38 : decode cE_holdsAncestor 38 = .ok (.aload 6, 2) := by decide +kernel
theorem dE_holdsAncestor_40 : decode cE_holdsAncestor 40 = .ok (.iload 8, 2) := by decide +kernel
theorem dE_holdsAncestor_42 : decode cE_holdsAncestor 42 = .ok (.iaload, 1) := by decide +kernel
theorem dE_holdsAncestor_43 : decode cE_holdsAncestor 43 = .ok (.istore 9, 2) := by decide +kernel
theorem dE_holdsAncestor_45 : decode cE_holdsAncestor 45 = .ok (.aload_n 0, 1) := by decide +kernel
theorem dE_holdsAncestor_46 : decode cE_holdsAncestor 46 = .ok (.iload 5, 2) := by decide +kernel
theorem dE_holdsAncestor_48 : decode cE_holdsAncestor 48 = .ok (.iload 9, 2) := by decide +kernel
theorem dE_holdsAncestor_50 : decode cE_holdsAncestor 50 = .ok (.invokevirtual 124, 3) := by decide +kernel
theorem dE_holdsAncestor_53 : decode cE_holdsAncestor 53 = .ok (.ifCond .eq 5, 3) := by decide +kernel
theorem dE_holdsAncestor_56 : decode cE_holdsAncestor 56 = .ok (.iconst 1, 1) := by decide +kernel
theorem dE_holdsAncestor_57 : decode cE_holdsAncestor 57 = .ok (.ireturn, 1) := by decide +kernel
theorem dE_holdsAncestor_58 : decode cE_holdsAncestor 58 = .ok (.iinc 8 1, 3) := by decide +kernel
theorem dE_holdsAncestor_61 : decode cE_holdsAncestor 61 = .ok (.goto (-30), 3) := by decide +kernel
theorem dE_holdsAncestor_64 : decode cE_holdsAncestor 64 = .ok (.iinc 4 1, 3) := by decide +kernel
theorem dE_holdsAncestor_67 : decode cE_holdsAncestor 67 = .ok (.goto (-59), 3) := by decide +kernel
theorem dE_holdsAncestor_70 : decode cE_holdsAncestor 70 = .ok (.iconst 0, 1) := by decide +kernel
theorem dE_holdsAncestor_71 : decode cE_holdsAncestor 71 = .ok (.ireturn, 1) := by decide +kernel
theorem dE_isAncestor_0 : decode cE_isAncestor 0 = .ok (.aload_n 0, 1) := by decide +kernel
theorem dE_isAncestor_1 : decode cE_isAncestor 1 = .ok (.iload_n 1, 1) := by decide +kernel
theorem dE_isAncestor_2 : decode cE_isAncestor 2 = .ok (.invokevirtual 100, 3) := by decide +kernel
theorem dE_isAncestor_5 : decode cE_isAncestor 5 = .ok (.astore_n 3, 1) := by decide +kernel
theorem dE_isAncestor_6 : decode cE_isAncestor 6 = .ok (.aload_n 0, 1) := by decide +kernel
theorem dE_isAncestor_7 : decode cE_isAncestor 7 = .ok (.iload_n 2, 1) := by decide +kernel
theorem dE_isAncestor_8 : decode cE_isAncestor 8 = .ok (.invokevirtual 100, 3) := by decide +kernel
theorem dE_isAncestor_11 : decode cE_isAncestor 11 = .ok (.astore 4, 2) := by decide +kernel
theorem dE_isAncestor_13 : decode cE_isAncestor 13 = .ok (.iload_n 1, 1) := by decide +kernel
theorem dE_isAncestor_14 : decode cE_isAncestor 14 = .ok (.iload_n 2, 1) := by decide +kernel
theorem dE_isAncestor_15 : decode cE_isAncestor 15 = .ok (.if_icmp .eq 28, 3) := by decide +kernel
theorem dE_isAncestor_18 : decode cE_isAncestor 18 = .ok (.aload 4, 2) := by decide +kernel
theorem dE_isAncestor_20 : decode cE_isAncestor 20 = .ok (.iload_n 2, 1) := by decide +kernel
theorem dE_isAncestor_21 : decode cE_isAncestor 21 = .ok (.aload_n 3, 1) := by decide +kernel
theorem dE_isAncestor_22 : decode cE_isAncestor 22 = .ok (.getfield 104, 3) := by decide +kernel
theorem dE_isAncestor_25 : decode cE_isAncestor 25 = .ok (.getfield 82, 3) := by decide +kernel
theorem dE_isAncestor_28 : decode cE_isAncestor 28 = .ok (.invokevirtual 128, 3) := by decide +kernel
theorem dE_isAncestor_31 : decode cE_isAncestor 31 = .ok (.aload_n 3, 1) := by decide +kernel
theorem dE_isAncestor_32 : decode cE_isAncestor 32 = .ok (.iload_n 1, 1) := by decide +kernel
theorem dE_isAncestor_33 : decode cE_isAncestor 33 = .ok (.invokevirtual 111, 3) := by decide +kernel
theorem dE_isAncestor_36 : decode cE_isAncestor 36 = .ok (.if_icmp .le 7, 3) := by decide +kernel
theorem dE_isAncestor_39 : decode cE_isAncestor 39 = .ok (.iconst 1, 1) := by decide +kernel
theorem dE_isAncestor_40 : decode cE_isAncestor 40 = .ok (.goto 4, 3) := by decide +kernel
theorem dE_isAncestor_43 : decode cE_isAncestor 43 = .ok (.iconst 0, 1) := by decide +kernel
theorem dE_isAncestor_44 : decode cE_isAncestor 44 = .ok (.ireturn, 1) := by decide +kernel
theorem dE_endHeads_0 : decode cE_endHeads 0 = .ok (.aload_n 1, 1) := by decide +kernel
theorem dE_endHeads_1 : decode cE_endHeads 1 = .ok (.astore_n 2, 1) := by decide +kernel
theorem dE_endHeads_2 : decode cE_endHeads 2 = .ok (.aload_n 2, 1) := by decide +kernel
theorem dE_endHeads_3 : decode cE_endHeads 3 = .ok (.arraylength, 1) := by decide +kernel
theorem dE_endHeads_4 : decode cE_endHeads 4 = .ok (.istore_n 3, 1) := by decide +kernel
theorem dE_endHeads_5 : decode cE_endHeads 5 = .ok (.iconst 0, 1) := by decide +kernel
theorem dE_endHeads_6 : decode cE_endHeads 6 = .ok (.istore 4, 2) := by decide +kernel
theorem dE_endHeads_8 : decode cE_endHeads 8 = .ok (.iload 4, 2) := by decide +kernel
theorem dE_endHeads_10 : decode cE_endHeads 10 = .ok (.iload_n 3, 1) := by decide +kernel
theorem dE_endHeads_11 : decode cE_endHeads 11 = .ok (.if_icmp .ge 42, 3) := by decide +kernel
theorem dE_endHeads_14 : decode cE_endHeads 14 = .ok (.aload_n 2, 1) := by decide +kernel
theorem dE_endHeads_15 : decode cE_endHeads 15 = .ok (.iload 4, 2) := by decide +kernel
theorem dE_endHeads_17 : decode cE_endHeads 17 = .ok (.iaload, 1) := by decide +kernel
theorem dE_endHeads_18 : decode cE_endHeads 18 = .ok (.istore 5, 2) := by decide +kernel
theorem dE_endHeads_20 : decode cE_endHeads 20 = .ok (.aload_n 0, 1) := by decide +kernel
theorem dE_endHeads_21 : decode cE_endHeads 21 = .ok (.iload 5, 2) := by decide +kernel
theorem dE_endHeads_23 : decode cE_endHeads 23 = .ok (.invokevirtual 100, 3) := by decide +kernel
theorem dE_endHeads_26 : decode cE_endHeads 26 = .ok (.getfield 104, 3) := by decide +kernel
theorem dE_endHeads_29 : decode cE_endHeads 29 = .ok (.astore 6, 2) := by decide +kernel
theorem dE_endHeads_31 : decode cE_endHeads 31 = .ok (.aload 6, 2) := by decide +kernel
theorem dE_endHeads_33 : decode cE_endHeads 33 = .ok (.getfield 61, 3) := by decide +kernel
theorem dE_endHeads_36 : decode cE_endHeads 36 = .ok (.iload 5, 2) := by decide +kernel
theorem dE_endHeads_38 : decode cE_endHeads 38 = .ok (.if_icmp .ne 9, 3) := by decide +kernel
theorem dE_endHeads_41 : decode cE_endHeads 41 = .ok (.aload 6, 2) := by decide +kernel
theorem dE_endHeads_43 : decode cE_endHeads 43 = .ok (.iconst 0, 1) := by decide +kernel
theorem dE_endHeads_44 : decode cE_endHeads 44 = .ok (.putfield 57, 3) := by decide +kernel
theorem dE_endHeads_47 : decode cE_endHeads 47 = .ok (.iinc 4 1, 3) := by decide +kernel
theorem dE_endHeads_50 : decode cE_endHeads 50 = .ok (.goto (-42), 3) := by decide +kernel
theorem dE_endHeads_53 : decode cE_endHeads 53 = .ok (.return_, 1) := by decide +kernel
theorem dE_newAgent_0 : decode cE_newAgent 0 = .ok (.new 9, 3) := by decide +kernel
theorem dE_newAgent_3 : decode cE_newAgent 3 = .ok (.dup, 1) := by decide +kernel
theorem dE_newAgent_4 : decode cE_newAgent 4 = .ok (.iload_n 1, 1) := by decide +kernel
theorem dE_newAgent_5 : decode cE_newAgent 5 = .ok (.aload_n 0, 1) := by decide +kernel
theorem dE_newAgent_6 : decode cE_newAgent 6 = .ok (.getfield 15, 3) := by decide +kernel
theorem dE_newAgent_9 : decode cE_newAgent 9 = .ok (.invokespecial 171, 3) := by decide +kernel
theorem dE_newAgent_12 : decode cE_newAgent 12 = .ok (.astore_n 2, 1) := by decide +kernel
theorem dE_newAgent_13 : decode cE_newAgent 13 = .ok (.aload_n 0, 1) := by decide +kernel
theorem dE_newAgent_14 : decode cE_newAgent 14 = .ok (.getfield 11, 3) := by decide +kernel
theorem dE_newAgent_17 : decode cE_newAgent 17 = .ok (.iload_n 1, 1) := by decide +kernel
theorem dE_newAgent_18 : decode cE_newAgent 18 = .ok (.aload_n 2, 1) := by decide +kernel
theorem dE_newAgent_19 : decode cE_newAgent 19 = .ok (.aastore, 1) := by decide +kernel
theorem dE_newAgent_20 : decode cE_newAgent 20 = .ok (.aload_n 0, 1) := by decide +kernel
theorem dE_newAgent_21 : decode cE_newAgent 21 = .ok (.dup, 1) := by decide +kernel
theorem dE_newAgent_22 : decode cE_newAgent 22 = .ok (.getfield 15, 3) := by decide +kernel
theorem dE_newAgent_25 : decode cE_newAgent 25 = .ok (.iconst 1, 1) := by decide +kernel
theorem dE_newAgent_26 : decode cE_newAgent 26 = .ok (.iadd, 1) := by decide +kernel
theorem dE_newAgent_27 : decode cE_newAgent 27 = .ok (.putfield 15, 3) := by decide +kernel
theorem dE_newAgent_30 : decode cE_newAgent 30 = .ok (.aload_n 2, 1) := by decide +kernel
theorem dE_newAgent_31 : decode cE_newAgent 31 = .ok (.areturn, 1) := by decide +kernel
theorem dA_init_0 : decode cA_init 0 = .ok (.aload_n 0, 1) := by decide +kernel
theorem dA_init_1 : decode cA_init 1 = .ok (.invokespecial 1, 3) := by decide +kernel
theorem dA_init_4 : decode cA_init 4 = .ok (.aload_n 0, 1) := by decide +kernel
theorem dA_init_5 : decode cA_init 5 = .ok (.iconst 0, 1) := by decide +kernel
theorem dA_init_6 : decode cA_init 6 = .ok (.putfield 7, 3) := by decide +kernel
theorem dA_init_9 : decode cA_init 9 = .ok (.aload_n 0, 1) := by decide +kernel
theorem dA_init_10 : decode cA_init 10 = .ok (.iconst (-1), 1) := by decide +kernel
theorem dA_init_11 : decode cA_init 11 = .ok (.putfield 13, 3) := by decide +kernel
theorem dA_init_14 : decode cA_init 14 = .ok (.aload_n 0, 1) := by decide +kernel
theorem dA_init_15 : decode cA_init 15 = .ok (.iconst 0, 1) := by decide +kernel
theorem dA_init_16 : decode cA_init 16 = .ok (.putfield 16, 3) := by decide +kernel
theorem dA_init_19 : decode cA_init 19 = .ok (.aload_n 0, 1) := by decide +kernel
theorem dA_init_20 : decode cA_init 20 = .ok (.aconst_null, 1) := by decide +kernel
theorem dA_init_21 : decode cA_init 21 = .ok (.putfield 20, 3) := by decide +kernel
theorem dA_init_24 : decode cA_init 24 = .ok (.aload_n 0, 1) := by decide +kernel
theorem dA_init_25 : decode cA_init 25 = .ok (.iload_n 1, 1) := by decide +kernel
theorem dA_init_26 : decode cA_init 26 = .ok (.putfield 24, 3) := by decide +kernel
theorem dA_init_29 : decode cA_init 29 = .ok (.aload_n 0, 1) := by decide +kernel
theorem dA_init_30 : decode cA_init 30 = .ok (.iload_n 2, 1) := by decide +kernel
theorem dA_init_31 : decode cA_init 31 = .ok (.putfield 27, 3) := by decide +kernel
theorem dA_init_34 : decode cA_init 34 = .ok (.return_, 1) := by decide +kernel
theorem dE_append_0 : decode cE_append 0 = .ok (.aload 4, 2) := by decide +kernel
theorem dE_append_2 : decode cE_append 2 = .ok (.aload_n 1, 1) := by decide +kernel
theorem dE_append_3 : decode cE_append 3 = .ok (.getfield 82, 3) := by decide +kernel
theorem dE_append_6 : decode cE_append 6 = .ok (.aload_n 1, 1) := by decide +kernel
theorem dE_append_7 : decode cE_append 7 = .ok (.getfield 85, 3) := by decide +kernel
theorem dE_append_10 : decode cE_append 10 = .ok (.iconst 1, 1) := by decide +kernel
theorem dE_append_11 : decode cE_append 11 = .ok (.iadd, 1) := by decide +kernel
theorem dE_append_12 : decode cE_append 12 = .ok (.iastore, 1) := by decide +kernel
theorem dE_append_13 : decode cE_append 13 = .ok (.new 19, 3) := by decide +kernel
theorem dE_append_16 : decode cE_append 16 = .ok (.dup, 1) := by decide +kernel
theorem dE_append_17 : decode cE_append 17 = .ok (.aload_n 1, 1) := by decide +kernel
theorem dE_append_18 : decode cE_append 18 = .ok (.aload_n 0, 1) := by decide +kernel
theorem dE_append_19 : decode cE_append 19 = .ok (.getfield 25, 3) := by decide +kernel
theorem dE_append_22 : decode cE_append 22 = .ok (.iload_n 2, 1) := by decide +kernel
theorem dE_append_23 : decode cE_append 23 = .ok (.aload_n 3, 1) := by decide +kernel
theorem dE_append_24 : decode cE_append 24 = .ok (.aload 4, 2) := by decide +kernel
theorem dE_append_26 : decode cE_append 26 = .ok (.aload_n 0, 1) := by decide +kernel
theorem dE_append_27 : decode cE_append 27 = .ok (.getfield 28, 3) := by decide +kernel
theorem dE_append_30 : decode cE_append 30 = .ok (.invokespecial 174, 3) := by decide +kernel
theorem dE_append_33 : decode cE_append 33 = .ok (.astore 5, 2) := by decide +kernel
theorem dE_append_35 : decode cE_append 35 = .ok (.aload 5, 2) := by decide +kernel
theorem dE_append_37 : decode cE_append 37 = .ok (.getfield 115, 3) := by decide +kernel
theorem dE_append_40 : decode cE_append 40 = .ok (.istore 6, 2) := by decide +kernel
theorem dE_append_42 : decode cE_append 42 = .ok (.iload 6, 2) := by decide +kernel
theorem dE_append_44 : decode cE_append 44 = .ok (.aload 5, 2) := by decide +kernel
theorem dE_append_46 : decode cE_append 46 = .ok (.getfield 142, 3) := by decide +kernel
theorem dE_append_49 : decode cE_append 49 = .ok (.if_icmp .gt 18, 3) := by decide +kernel
theorem dE_append_52 : decode cE_append 52 = .ok (.aload_n 0, 1) := by decide +kernel
theorem dE_append_53 : decode cE_append 53 = .ok (.getfield 21, 3) := by decide +kernel
theorem dE_append_56 : decode cE_append 56 = .ok (.iload 6, 2) := by decide +kernel
theorem dE_append_58 : decode cE_append 58 = .ok (.aload 5, 2) := by decide +kernel
theorem dE_append_60 : decode cE_append 60 = .ok (.aastore, 1) := by decide +kernel
theorem dE_append_61 : decode cE_append 61 = .ok (.iinc 6 1, 3) := by decide +kernel
theorem dE_append_64 : decode cE_append 64 = .ok (.goto (-22), 3) := by decide +kernel
theorem dE_append_67 : decode cE_append 67 = .ok (.aload_n 1, 1) := by decide +kernel
theorem dE_append_68 : decode cE_append 68 = .ok (.dup, 1) := by decide +kernel
theorem dE_append_69 : decode cE_append 69 = .ok (.getfield 85, 3) := by decide +kernel
theorem dE_append_72 : decode cE_append 72 = .ok (.iload_n 2, 1) := by decide +kernel
theorem dE_append_73 : decode cE_append 73 = .ok (.iadd, 1) := by decide +kernel
theorem dE_append_74 : decode cE_append 74 = .ok (.putfield 85, 3) := by decide +kernel
theorem dE_append_77 : decode cE_append 77 = .ok (.aload_n 1, 1) := by decide +kernel
theorem dE_append_78 : decode cE_append 78 = .ok (.aload 5, 2) := by decide +kernel
theorem dE_append_80 : decode cE_append 80 = .ok (.getfield 142, 3) := by decide +kernel
theorem dE_append_83 : decode cE_append 83 = .ok (.putfield 61, 3) := by decide +kernel
theorem dE_append_86 : decode cE_append 86 = .ok (.aload_n 1, 1) := by decide +kernel
theorem dE_append_87 : decode cE_append 87 = .ok (.iconst 1, 1) := by decide +kernel
theorem dE_append_88 : decode cE_append 88 = .ok (.putfield 57, 3) := by decide +kernel
theorem dE_append_91 : decode cE_append 91 = .ok (.aload_n 1, 1) := by decide +kernel
theorem dE_append_92 : decode cE_append 92 = .ok (.aload 5, 2) := by decide +kernel
theorem dE_append_94 : decode cE_append 94 = .ok (.putfield 158, 3) := by decide +kernel
theorem dE_append_97 : decode cE_append 97 = .ok (.aload_n 0, 1) := by decide +kernel
theorem dE_append_98 : decode cE_append 98 = .ok (.dup, 1) := by decide +kernel
theorem dE_append_99 : decode cE_append 99 = .ok (.getfield 25, 3) := by decide +kernel
theorem dE_append_102 : decode cE_append 102 = .ok (.iload_n 2, 1) := by decide +kernel
theorem dE_append_103 : decode cE_append 103 = .ok (.iadd, 1) := by decide +kernel
theorem dE_append_104 : decode cE_append 104 = .ok (.putfield 25, 3) := by decide +kernel
theorem dE_append_107 : decode cE_append 107 = .ok (.aload_n 0, 1) := by decide +kernel
theorem dE_append_108 : decode cE_append 108 = .ok (.aload 5, 2) := by decide +kernel
theorem dE_append_110 : decode cE_append 110 = .ok (.putfield 28, 3) := by decide +kernel
theorem dE_append_113 : decode cE_append 113 = .ok (.return_, 1) := by decide +kernel
theorem dS_init_0 : decode cS_init 0 = .ok (.aload_n 0, 1) := by decide +kernel
theorem dS_init_1 : decode cS_init 1 = .ok (.invokespecial 1, 3) := by decide +kernel
theorem dS_init_4 : decode cS_init 4 = .ok (.aload_n 0, 1) := by decide +kernel
theorem dS_init_5 : decode cS_init 5 = .ok (.aload_n 1, 1) := by decide +kernel
theorem dS_init_6 : decode cS_init 6 = .ok (.putfield 7, 3) := by decide +kernel
theorem dS_init_9 : decode cS_init 9 = .ok (.aload_n 0, 1) := by decide +kernel
theorem dS_init_10 : decode cS_init 10 = .ok (.iload_n 2, 1) := by decide +kernel
theorem dS_init_11 : decode cS_init 11 = .ok (.putfield 13, 3) := by decide +kernel
theorem dS_init_14 : decode cS_init 14 = .ok (.aload_n 0, 1) := by decide +kernel
theorem dS_init_15 : decode cS_init 15 = .ok (.iload_n 2, 1) := by decide +kernel
theorem dS_init_16 : decode cS_init 16 = .ok (.iload_n 3, 1) := by decide +kernel
theorem dS_init_17 : decode cS_init 17 = .ok (.iadd, 1) := by decide +kernel
theorem dS_init_18 : decode cS_init 18 = .ok (.iconst 1, 1) := by decide +kernel
theorem dS_init_19 : decode cS_init 19 = .ok (.isub, 1) := by decide +kernel
theorem dS_init_20 : decode cS_init 20 = .ok (.putfield 17, 3) := by decide +kernel
theorem dS_init_23 : decode cS_init 23 = .ok (.aload_n 0, 1) := by decide +kernel
theorem dS_init_24 : decode cS_init 24 = .ok (.aload_n 1, 1) := by decide +kernel
theorem dS_init_25 : decode cS_init 25 = .ok (.getfield 20, 3) := by decide +kernel
theorem dS_init_28 : decode cS_init 28 = .ok (.putfield 25, 3) := by decide +kernel
theorem dS_init_31 : decode cS_init 31 = .ok (.aload_n 0, 1) := by decide +kernel
theorem dS_init_32 : decode cS_init 32 = .ok (.aload 4, 2) := by decide +kernel
theorem dS_init_34 : decode cS_init 34 = .ok (.putfield 28, 3) := by decide +kernel
theorem dS_init_37 : decode cS_init 37 = .ok (.aload_n 0, 1) := by decide +kernel
theorem dS_init_38 : decode cS_init 38 = .ok (.aload 5, 2) := by decide +kernel
theorem dS_init_40 : decode cS_init 40 = .ok (.putfield 32, 3) := by decide +kernel
theorem dS_init_43 : decode cS_init 43 = .ok (.aload_n 0, 1) := by decide +kernel
theorem dS_init_44 : decode cS_init 44 = .ok (.aload 5, 2) := by decide +kernel
theorem dS_init_46 : decode cS_init 46 = .ok (.invokestatic 35, 3) := by decide +kernel
theorem dS_init_49 : decode cS_init 49 = .ok (.iload_n 2, 1) := by decide +kernel
theorem dS_init_50 : decode cS_init 50 = .ok (.iconst 1, 1) := by decide +kernel
theorem dS_init_51 : decode cS_init 51 = .ok (.iadd, 1) := by decide +kernel
theorem dS_init_52 : decode cS_init 52 = .ok (.if_icmp .ne 7, 3) := by decide +kernel
theorem dS_init_55 : decode cS_init 55 = .ok (.iconst 1, 1) := by decide +kernel
theorem dS_init_56 : decode cS_init 56 = .ok (.goto 4, 3) := by decide +kernel
theorem dS_init_59 : decode cS_init 59 = .ok (.iconst 0, 1) := by decide +kernel
theorem dS_init_60 : decode cS_init 60 = .ok (.putfield 39, 3) := by decide +kernel
theorem dS_init_63 : decode cS_init 63 = .ok (.aload_n 0, 1) := by decide +kernel
theorem dS_init_64 : decode cS_init 64 = .ok (.aload 6, 2) := by decide +kernel
theorem dS_init_66 : decode cS_init 66 = .ok (.putfield 43, 3) := by decide +kernel
theorem dS_init_69 : decode cS_init 69 = .ok (.aload_n 0, 1) := by decide +kernel
theorem dS_init_70 : decode cS_init 70 = .ok (.aload_n 1, 1) := by decide +kernel
theorem dS_init_71 : decode cS_init 71 = .ok (.getfield 47, 3) := by decide +kernel
theorem dS_init_74 : decode cS_init 74 = .ok (.putfield 50, 3) := by decide +kernel
theorem dS_init_77 : decode cS_init 77 = .ok (.return_, 1) := by decide +kernel
theorem dS_sum_0 : decode cS_sum 0 = .ok (.iconst 0, 1) := by decide +kernel
theorem dS_sum_1 : decode cS_sum 1 = .ok (.istore_n 1, 1) := by decide +kernel
theorem dS_sum_2 : decode cS_sum 2 = .ok (.aload_n 0, 1) := by decide +kernel
theorem dS_sum_3 : decode cS_sum 3 = .ok (.astore_n 2, 1) := by decide +kernel
theorem dS_sum_4 : decode cS_sum 4 = .ok (.aload_n 2, 1) := by decide +kernel
theorem dS_sum_5 : decode cS_sum 5 = .ok (.arraylength, 1) := by decide +kernel
theorem dS_sum_6 : decode cS_sum 6 = .ok (.istore_n 3, 1) := by decide +kernel
theorem dS_sum_7 : decode cS_sum 7 = .ok (.iconst 0, 1) := by decide +kernel
theorem dS_sum_8 : decode cS_sum 8 = .ok (.istore 4, 2) := by decide +kernel
theorem dS_sum_10 : decode cS_sum 10 = .ok (.iload 4, 2) := by decide +kernel
theorem dS_sum_12 : decode cS_sum 12 = .ok (.iload_n 3, 1) := by decide +kernel
theorem dS_sum_13 : decode cS_sum 13 = .ok (.if_icmp .ge 20, 3) := by decide +kernel
theorem dS_sum_16 : decode cS_sum 16 = .ok (.aload_n 2, 1) := by decide +kernel
theorem dS_sum_17 : decode cS_sum 17 = .ok (.iload 4, 2) := by decide +kernel
theorem dS_sum_19 : decode cS_sum 19 = .ok (.iaload, 1) := by decide +kernel
theorem dS_sum_20 : decode cS_sum 20 = .ok (.istore 5, 2) := by decide +kernel
theorem dS_sum_22 : decode cS_sum 22 = .ok (.iload_n 1, 1) := by decide +kernel
theorem dS_sum_23 : decode cS_sum 23 = .ok (.iload 5, 2) := by decide +kernel
theorem dS_sum_25 : decode cS_sum 25 = .ok (.iadd, 1) := by decide +kernel
theorem dS_sum_26 : decode cS_sum 26 = .ok (.istore_n 1, 1) := by decide +kernel
theorem dS_sum_27 : decode cS_sum 27 = .ok (.iinc 4 1, 3) := by decide +kernel
theorem dS_sum_30 : decode cS_sum 30 = .ok (.goto (-20), 3) := by decide +kernel
theorem dS_sum_33 : decode cS_sum 33 = .ok (.iload_n 1, 1) := by decide +kernel
theorem dS_sum_34 : decode cS_sum 34 = .ok (.ireturn, 1) := by decide +kernel
theorem dL_events_0 : decode cL_events 0 = .ok (.aload_n 2, 1) := by decide +kernel
theorem dL_events_1 : decode cL_events 1 = .ok (.iconst 0, 1) := by decide +kernel
theorem dL_events_2 : decode cL_events 2 = .ok (.aload_n 0, 1) := by decide +kernel
theorem dL_events_3 : decode cL_events 3 = .ok (.iload_n 1, 1) := by decide +kernel
theorem dL_events_4 : decode cL_events 4 = .ok (.invokevirtual 24, 3) := by decide +kernel
theorem dL_events_7 : decode cL_events 7 = .ok (.i2l, 1) := by decide +kernel
theorem dL_events_8 : decode cL_events 8 = .ok (.lastore, 1) := by decide +kernel
theorem dL_events_9 : decode cL_events 9 = .ok (.goto 6, 3) := by decide +kernel
theorem dL_events_12 : decode cL_events 12 = .ok (.astore_n 3, 1) := by decide +kernel
theorem dL_events_13 : decode cL_events 13 = .ok (.iconst 1, 1) := by decide +kernel
theorem dL_events_14 : decode cL_events 14 = .ok (.ireturn, 1) := by decide +kernel
theorem dL_events_15 : decode cL_events 15 = .ok (.iconst 0, 1) := by decide +kernel
theorem dL_events_16 : decode cL_events 16 = .ok (.ireturn, 1) := by decide +kernel
theorem dE_events_0 : decode cE_events 0 = .ok (.iload_n 1, 1) := by decide +kernel
theorem dE_events_1 : decode cE_events 1 = .ok (.iconst (-1), 1) := by decide +kernel
theorem dE_events_2 : decode cE_events 2 = .ok (.if_icmp .ne 8, 3) := by decide +kernel
theorem dE_events_5 : decode cE_events 5 = .ok (.aload_n 0, 1) := by decide +kernel
theorem dE_events_6 : decode cE_events 6 = .ok (.getfield 25, 3) := by decide +kernel
theorem dE_events_9 : decode cE_events 9 = .ok (.ireturn, 1) := by decide +kernel
theorem dE_events_10 : decode cE_events 10 = .ok (.iload_n 1, 1) := by decide +kernel
theorem dE_events_11 : decode cE_events 11 = .ok (.invokestatic 64, 3) := by decide +kernel
theorem dE_events_14 : decode cE_events 14 = .ok (.ifCond .ne 11, 3) := by decide +kernel
theorem dE_events_17 : decode cE_events 17 = .ok (.new 67, 3) := by decide +kernel
theorem dE_events_20 : decode cE_events 20 = .ok (.dup, 1) := by decide +kernel
theorem dE_events_21 : decode cE_events 21 = .ok (.invokespecial 69, 3) := by decide +kernel
theorem dE_events_24 : decode cE_events 24 = .ok (.athrow, 1) := by decide +kernel
theorem dE_events_25 : decode cE_events 25 = .ok (.aload_n 0, 1) := by decide +kernel
theorem dE_events_26 : decode cE_events 26 = .ok (.getfield 11, 3) := by decide +kernel
theorem dE_events_29 : decode cE_events 29 = .ok (.iload_n 1, 1) := by decide +kernel
theorem dE_events_30 : decode cE_events 30 = .ok (.aaload, 1) := by decide +kernel
theorem dE_events_31 : decode cE_events 31 = .ok (.ifnonnull 7, 3) := by decide +kernel
theorem dE_events_34 : decode cE_events 34 = .ok (.iconst 0, 1) := by decide +kernel
theorem dE_events_35 : decode cE_events 35 = .ok (.goto 12, 3) := by decide +kernel
theorem dE_events_38 : decode cE_events 38 = .ok (.aload_n 0, 1) := by decide +kernel
theorem dE_events_39 : decode cE_events 39 = .ok (.getfield 11, 3) := by decide +kernel
theorem dE_events_42 : decode cE_events 42 = .ok (.iload_n 1, 1) := by decide +kernel
theorem dE_events_43 : decode cE_events 43 = .ok (.aaload, 1) := by decide +kernel
theorem dE_events_44 : decode cE_events 44 = .ok (.getfield 85, 3) := by decide +kernel
theorem dE_events_47 : decode cE_events 47 = .ok (.ireturn, 1) := by decide +kernel
theorem dL_place_0 : decode cL_place 0 = .ok (.aload_n 3, 1) := by decide +kernel
theorem dL_place_1 : decode cL_place 1 = .ok (.iconst 0, 1) := by decide +kernel
theorem dL_place_2 : decode cL_place 2 = .ok (.aload_n 0, 1) := by decide +kernel
theorem dL_place_3 : decode cL_place 3 = .ok (.iload_n 1, 1) := by decide +kernel
theorem dL_place_4 : decode cL_place 4 = .ok (.iload_n 2, 1) := by decide +kernel
theorem dL_place_5 : decode cL_place 5 = .ok (.invokevirtual 28, 3) := by decide +kernel
theorem dL_place_8 : decode cL_place 8 = .ok (.i2l, 1) := by decide +kernel
theorem dL_place_9 : decode cL_place 9 = .ok (.lastore, 1) := by decide +kernel
theorem dL_place_10 : decode cL_place 10 = .ok (.goto 7, 3) := by decide +kernel
theorem dL_place_13 : decode cL_place 13 = .ok (.astore 4, 2) := by decide +kernel
theorem dL_place_15 : decode cL_place 15 = .ok (.iconst 1, 1) := by decide +kernel
theorem dL_place_16 : decode cL_place 16 = .ok (.ireturn, 1) := by decide +kernel
theorem dL_place_17 : decode cL_place 17 = .ok (.iconst 0, 1) := by decide +kernel
theorem dL_place_18 : decode cL_place 18 = .ok (.ireturn, 1) := by decide +kernel
theorem dE_place_0 : decode cE_place 0 = .ok (.aload_n 0, 1) := by decide +kernel
theorem dE_place_1 : decode cE_place 1 = .ok (.iload_n 1, 1) := by decide +kernel
theorem dE_place_2 : decode cE_place 2 = .ok (.iload_n 2, 1) := by decide +kernel
theorem dE_place_3 : decode cE_place 3 = .ok (.invokevirtual 39, 3) := by decide +kernel
theorem dE_place_6 : decode cE_place 6 = .ok (.ireturn, 1) := by decide +kernel
theorem dL_id_0 : decode cL_id 0 = .ok (.aload_n 2, 1) := by decide +kernel
theorem dL_id_1 : decode cL_id 1 = .ok (.iconst 0, 1) := by decide +kernel
theorem dL_id_2 : decode cL_id 2 = .ok (.aload_n 0, 1) := by decide +kernel
theorem dL_id_3 : decode cL_id 3 = .ok (.iload_n 1, 1) := by decide +kernel
theorem dL_id_4 : decode cL_id 4 = .ok (.invokevirtual 31, 3) := by decide +kernel
theorem dL_id_7 : decode cL_id 7 = .ok (.lastore, 1) := by decide +kernel
theorem dL_id_8 : decode cL_id 8 = .ok (.goto 6, 3) := by decide +kernel
theorem dL_id_11 : decode cL_id 11 = .ok (.astore_n 3, 1) := by decide +kernel
theorem dL_id_12 : decode cL_id 12 = .ok (.iconst 1, 1) := by decide +kernel
theorem dL_id_13 : decode cL_id 13 = .ok (.ireturn, 1) := by decide +kernel
theorem dL_id_14 : decode cL_id 14 = .ok (.iconst 0, 1) := by decide +kernel
theorem dL_id_15 : decode cL_id 15 = .ok (.ireturn, 1) := by decide +kernel
theorem dE_id_0 : decode cE_id 0 = .ok (.aload_n 0, 1) := by decide +kernel
theorem dE_id_1 : decode cE_id 1 = .ok (.iload_n 1, 1) := by decide +kernel
theorem dE_id_2 : decode cE_id 2 = .ok (.invokevirtual 100, 3) := by decide +kernel
theorem dE_id_5 : decode cE_id 5 = .ok (.astore_n 2, 1) := by decide +kernel
theorem dE_id_6 : decode cE_id 6 = .ok (.aload_n 2, 1) := by decide +kernel
theorem dE_id_7 : decode cE_id 7 = .ok (.getfield 104, 3) := by decide +kernel
theorem dE_id_10 : decode cE_id 10 = .ok (.getfield 108, 3) := by decide +kernel
theorem dE_id_13 : decode cE_id 13 = .ok (.i2l, 1) := by decide +kernel
theorem dE_id_14 : decode cE_id 14 = .ok (.bipush 32, 2) := by decide +kernel
theorem dE_id_16 : decode cE_id 16 = .ok (.lshl, 1) := by decide +kernel
theorem dE_id_17 : decode cE_id 17 = .ok (.aload_n 2, 1) := by decide +kernel
theorem dE_id_18 : decode cE_id 18 = .ok (.iload_n 1, 1) := by decide +kernel
theorem dE_id_19 : decode cE_id 19 = .ok (.invokevirtual 111, 3) := by decide +kernel
theorem dE_id_22 : decode cE_id 22 = .ok (.i2l, 1) := by decide +kernel
theorem dE_id_23 : decode cE_id 23 = .ok (.ladd, 1) := by decide +kernel
theorem dE_id_24 : decode cE_id 24 = .ok (.lreturn, 1) := by decide +kernel
theorem dL_parentOf_0 : decode cL_parentOf 0 = .ok (.aload_n 3, 1) := by decide +kernel
theorem dL_parentOf_1 : decode cL_parentOf 1 = .ok (.iconst 0, 1) := by decide +kernel
theorem dL_parentOf_2 : decode cL_parentOf 2 = .ok (.aload_n 0, 1) := by decide +kernel
theorem dL_parentOf_3 : decode cL_parentOf 3 = .ok (.iload_n 1, 1) := by decide +kernel
theorem dL_parentOf_4 : decode cL_parentOf 4 = .ok (.iload_n 2, 1) := by decide +kernel
theorem dL_parentOf_5 : decode cL_parentOf 5 = .ok (.invokevirtual 35, 3) := by decide +kernel
theorem dL_parentOf_8 : decode cL_parentOf 8 = .ok (.i2l, 1) := by decide +kernel
theorem dL_parentOf_9 : decode cL_parentOf 9 = .ok (.lastore, 1) := by decide +kernel
theorem dL_parentOf_10 : decode cL_parentOf 10 = .ok (.goto 7, 3) := by decide +kernel
theorem dL_parentOf_13 : decode cL_parentOf 13 = .ok (.astore 4, 2) := by decide +kernel
theorem dL_parentOf_15 : decode cL_parentOf 15 = .ok (.iconst 1, 1) := by decide +kernel
theorem dL_parentOf_16 : decode cL_parentOf 16 = .ok (.ireturn, 1) := by decide +kernel
theorem dL_parentOf_17 : decode cL_parentOf 17 = .ok (.iconst 0, 1) := by decide +kernel
theorem dL_parentOf_18 : decode cL_parentOf 18 = .ok (.ireturn, 1) := by decide +kernel
theorem dE_parentOf_0 : decode cE_parentOf 0 = .ok (.aload_n 0, 1) := by decide +kernel
theorem dE_parentOf_1 : decode cE_parentOf 1 = .ok (.iload_n 1, 1) := by decide +kernel
theorem dE_parentOf_2 : decode cE_parentOf 2 = .ok (.invokevirtual 100, 3) := by decide +kernel
theorem dE_parentOf_5 : decode cE_parentOf 5 = .ok (.astore_n 3, 1) := by decide +kernel
theorem dE_parentOf_6 : decode cE_parentOf 6 = .ok (.iload_n 1, 1) := by decide +kernel
theorem dE_parentOf_7 : decode cE_parentOf 7 = .ok (.aload_n 3, 1) := by decide +kernel
theorem dE_parentOf_8 : decode cE_parentOf 8 = .ok (.getfield 115, 3) := by decide +kernel
theorem dE_parentOf_11 : decode cE_parentOf 11 = .ok (.if_icmp .ne 7, 3) := by decide +kernel
theorem dE_parentOf_14 : decode cE_parentOf 14 = .ok (.iconst 1, 1) := by decide +kernel
theorem dE_parentOf_15 : decode cE_parentOf 15 = .ok (.goto 4, 3) := by decide +kernel
theorem dE_parentOf_18 : decode cE_parentOf 18 = .ok (.iconst 0, 1) := by decide +kernel
theorem dE_parentOf_19 : decode cE_parentOf 19 = .ok (.istore 4, 2) := by decide +kernel
theorem dE_parentOf_21 : decode cE_parentOf 21 = .ok (.iload 4, 2) := by decide +kernel
theorem dE_parentOf_23 : decode cE_parentOf 23 = .ok (.ifCond .eq 11, 3) := by decide +kernel
theorem dE_parentOf_26 : decode cE_parentOf 26 = .ok (.aload_n 3, 1) := by decide +kernel
theorem dE_parentOf_27 : decode cE_parentOf 27 = .ok (.getfield 118, 3) := by decide +kernel
theorem dE_parentOf_30 : decode cE_parentOf 30 = .ok (.arraylength, 1) := by decide +kernel
theorem dE_parentOf_31 : decode cE_parentOf 31 = .ok (.goto 4, 3) := by decide +kernel
theorem dE_parentOf_34 : decode cE_parentOf 34 = .ok (.iconst 1, 1) := by decide +kernel
theorem dE_parentOf_35 : decode cE_parentOf 35 = .ok (.istore 5, 2) := by decide +kernel
theorem dE_parentOf_37 : decode cE_parentOf 37 = .ok (.iload_n 2, 1) := by decide +kernel
theorem dE_parentOf_38 : decode cE_parentOf 38 = .ok (.iconst (-1), 1) := by decide +kernel
theorem dE_parentOf_39 : decode cE_parentOf 39 = .ok (.if_icmp .ne 6, 3) := by decide +kernel
theorem dE_parentOf_42 : decode cE_parentOf 42 = .ok (.iload 5, 2) := by decide +kernel
theorem dE_parentOf_44 : decode cE_parentOf 44 = .ok (.ireturn, 1) := by decide +kernel
theorem dE_parentOf_45 : decode cE_parentOf 45 = .ok (.iload_n 2, 1) := by decide +kernel
theorem dE_parentOf_46 : decode cE_parentOf 46 = .ok (.ifCond .lt 9, 3) := by decide +kernel
theorem dE_parentOf_49 : decode cE_parentOf 49 = .ok (.iload_n 2, 1) := by decide +kernel
theorem dE_parentOf_50 : decode cE_parentOf 50 = .ok (.iload 5, 2) := by decide +kernel
theorem dE_parentOf_52 : decode cE_parentOf 52 = .ok (.if_icmp .lt 11, 3) := by decide +kernel
theorem dE_parentOf_55 : decode cE_parentOf 55 = .ok (.new 121, 3) := by decide +kernel
theorem dE_parentOf_58 : decode cE_parentOf 58 = .ok (.dup, 1) := by decide +kernel
theorem dE_parentOf_59 : decode cE_parentOf 59 = .ok (.invokespecial 123, 3) := by decide +kernel
theorem dE_parentOf_62 : decode cE_parentOf 62 = .ok (.athrow, 1) := by decide +kernel
theorem dE_parentOf_63 : decode cE_parentOf 63 = .ok (.iload 4, 2) := by decide +kernel
theorem dE_parentOf_65 : decode cE_parentOf 65 = .ok (.ifCond .eq 12, 3) := by decide +kernel
theorem dE_parentOf_68 : decode cE_parentOf 68 = .ok (.aload_n 3, 1) := by decide +kernel
theorem dE_parentOf_69 : decode cE_parentOf 69 = .ok (.getfield 118, 3) := by decide +kernel
theorem dE_parentOf_72 : decode cE_parentOf 72 = .ok (.iload_n 2, 1) := by decide +kernel
theorem dE_parentOf_73 : decode cE_parentOf 73 = .ok (.iaload, 1) := by decide +kernel
theorem dE_parentOf_74 : decode cE_parentOf 74 = .ok (.goto 6, 3) := by decide +kernel
theorem dE_parentOf_77 : decode cE_parentOf 77 = .ok (.iload_n 1, 1) := by decide +kernel
theorem dE_parentOf_78 : decode cE_parentOf 78 = .ok (.iconst 1, 1) := by decide +kernel
theorem dE_parentOf_79 : decode cE_parentOf 79 = .ok (.isub, 1) := by decide +kernel
theorem dE_parentOf_80 : decode cE_parentOf 80 = .ok (.ireturn, 1) := by decide +kernel
theorem dL_related_0 : decode cL_related 0 = .ok (.aload_n 3, 1) := by decide +kernel
theorem dL_related_1 : decode cL_related 1 = .ok (.iconst 0, 1) := by decide +kernel
theorem dL_related_2 : decode cL_related 2 = .ok (.aload_n 0, 1) := by decide +kernel
theorem dL_related_3 : decode cL_related 3 = .ok (.iload_n 1, 1) := by decide +kernel
theorem dL_related_4 : decode cL_related 4 = .ok (.iload_n 2, 1) := by decide +kernel
theorem dL_related_5 : decode cL_related 5 = .ok (.invokevirtual 38, 3) := by decide +kernel
theorem dL_related_8 : decode cL_related 8 = .ok (.i2l, 1) := by decide +kernel
theorem dL_related_9 : decode cL_related 9 = .ok (.lastore, 1) := by decide +kernel
theorem dL_related_10 : decode cL_related 10 = .ok (.goto 7, 3) := by decide +kernel
theorem dL_related_13 : decode cL_related 13 = .ok (.astore 4, 2) := by decide +kernel
theorem dL_related_15 : decode cL_related 15 = .ok (.iconst 1, 1) := by decide +kernel
theorem dL_related_16 : decode cL_related 16 = .ok (.ireturn, 1) := by decide +kernel
theorem dL_related_17 : decode cL_related 17 = .ok (.iconst 0, 1) := by decide +kernel
theorem dL_related_18 : decode cL_related 18 = .ok (.ireturn, 1) := by decide +kernel
