theorem dM_id_0 : decode cM_id 0 = .ok (.aload_n 0, 1) := by decide +kernel
theorem dM_id_1 : decode cM_id 1 = .ok (.iconst 0, 1) := by decide +kernel
theorem dM_id_2 : decode cM_id 2 = .ok (.putfield 113, 3) := by decide +kernel
theorem dM_id_5 : decode cM_id 5 = .ok (.aload_n 0, 1) := by decide +kernel
theorem dM_id_6 : decode cM_id 6 = .ok (.iload_n 1, 1) := by decide +kernel
theorem dM_id_7 : decode cM_id 7 = .ok (.invokevirtual 132, 3) := by decide +kernel
theorem dM_id_10 : decode cM_id 10 = .ok (.lreturn, 1) := by decide +kernel
theorem dM_id_11 : decode cM_id 11 = .ok (.astore_n 2, 1) := by decide +kernel
theorem dM_id_12 : decode cM_id 12 = .ok (.aload_n 0, 1) := by decide +kernel
theorem dM_id_13 : decode cM_id 13 = .ok (.iconst 1, 1) := by decide +kernel
theorem dM_id_14 : decode cM_id 14 = .ok (.putfield 113, 3) := by decide +kernel
theorem dM_id_17 : decode cM_id 17 = .ok (.lconst 0, 1) := by decide +kernel
theorem dM_id_18 : decode cM_id 18 = .ok (.lreturn, 1) := by decide +kernel
theorem dM_id0_0 : decode cM_id0 0 = .ok (.aload_n 0, 1) := by decide +kernel
theorem dM_id0_1 : decode cM_id0 1 = .ok (.iload_n 1, 1) := by decide +kernel
theorem dM_id0_2 : decode cM_id0 2 = .ok (.invokevirtual 100, 3) := by decide +kernel
theorem dM_id0_5 : decode cM_id0 5 = .ok (.invokestatic 62, 3) := by decide +kernel
theorem dM_id0_8 : decode cM_id0 8 = .ok (.ldc2_w 103, 3) := by decide +kernel
theorem dM_id0_11 : decode cM_id0 11 = .ok (.aload_n 0, 1) := by decide +kernel
theorem dM_id0_12 : decode cM_id0 12 = .ok (.getfield 9, 3) := by decide +kernel
theorem dM_id0_15 : decode cM_id0 15 = .ok (.aload_n 0, 1) := by decide +kernel
theorem dM_id0_16 : decode cM_id0 16 = .ok (.getfield 21, 3) := by decide +kernel
theorem dM_id0_19 : decode cM_id0 19 = .ok (.iload_n 1, 1) := by decide +kernel
theorem dM_id0_20 : decode cM_id0 20 = .ok (.saload, 1) := by decide +kernel
theorem dM_id0_21 : decode cM_id0 21 = .ok (.iaload, 1) := by decide +kernel
theorem dM_id0_22 : decode cM_id0 22 = .ok (.i2l, 1) := by decide +kernel
theorem dM_id0_23 : decode cM_id0 23 = .ok (.lmul, 1) := by decide +kernel
theorem dM_id0_24 : decode cM_id0 24 = .ok (.aload_n 0, 1) := by decide +kernel
theorem dM_id0_25 : decode cM_id0 25 = .ok (.getfield 25, 3) := by decide +kernel
theorem dM_id0_28 : decode cM_id0 28 = .ok (.iload_n 1, 1) := by decide +kernel
theorem dM_id0_29 : decode cM_id0 29 = .ok (.saload, 1) := by decide +kernel
theorem dM_id0_30 : decode cM_id0 30 = .ok (.i2l, 1) := by decide +kernel
theorem dM_id0_31 : decode cM_id0 31 = .ok (.ladd, 1) := by decide +kernel
theorem dM_id0_32 : decode cM_id0 32 = .ok (.lreturn, 1) := by decide +kernel
theorem dM_isPlace_0 : decode cM_isPlace 0 = .ok (.iload_n 1, 1) := by decide +kernel
theorem dM_isPlace_1 : decode cM_isPlace 1 = .ok (.ifCond .lt 15, 3) := by decide +kernel
theorem dM_isPlace_4 : decode cM_isPlace 4 = .ok (.iload_n 1, 1) := by decide +kernel
theorem dM_isPlace_5 : decode cM_isPlace 5 = .ok (.aload_n 0, 1) := by decide +kernel
theorem dM_isPlace_6 : decode cM_isPlace 6 = .ok (.getfield 55, 3) := by decide +kernel
theorem dM_isPlace_9 : decode cM_isPlace 9 = .ok (.if_icmp .ge 7, 3) := by decide +kernel
theorem dM_isPlace_12 : decode cM_isPlace 12 = .ok (.iconst 1, 1) := by decide +kernel
theorem dM_isPlace_13 : decode cM_isPlace 13 = .ok (.goto 4, 3) := by decide +kernel
theorem dM_isPlace_16 : decode cM_isPlace 16 = .ok (.iconst 0, 1) := by decide +kernel
theorem dM_isPlace_17 : decode cM_isPlace 17 = .ok (.ireturn, 1) := by decide +kernel
theorem dM_parentOf_0 : decode cM_parentOf 0 = .ok (.aload_n 0, 1) := by decide +kernel
theorem dM_parentOf_1 : decode cM_parentOf 1 = .ok (.iconst 0, 1) := by decide +kernel
theorem dM_parentOf_2 : decode cM_parentOf 2 = .ok (.putfield 113, 3) := by decide +kernel
theorem dM_parentOf_5 : decode cM_parentOf 5 = .ok (.aload_n 0, 1) := by decide +kernel
theorem dM_parentOf_6 : decode cM_parentOf 6 = .ok (.iload_n 1, 1) := by decide +kernel
theorem dM_parentOf_7 : decode cM_parentOf 7 = .ok (.iload_n 2, 1) := by decide +kernel
theorem dM_parentOf_8 : decode cM_parentOf 8 = .ok (.invokevirtual 136, 3) := by decide +kernel
theorem dM_parentOf_11 : decode cM_parentOf 11 = .ok (.ireturn, 1) := by decide +kernel
theorem dM_parentOf_12 : decode cM_parentOf 12 = .ok (.astore_n 3, 1) := by decide +kernel
theorem dM_parentOf_13 : decode cM_parentOf 13 = .ok (.aload_n 0, 1) := by decide +kernel
theorem dM_parentOf_14 : decode cM_parentOf 14 = .ok (.iconst 1, 1) := by decide +kernel
theorem dM_parentOf_15 : decode cM_parentOf 15 = .ok (.putfield 113, 3) := by decide +kernel
theorem dM_parentOf_18 : decode cM_parentOf 18 = .ok (.iconst 0, 1) := by decide +kernel
theorem dM_parentOf_19 : decode cM_parentOf 19 = .ok (.ireturn, 1) := by decide +kernel
theorem dM_parentOf0_0 : decode cM_parentOf0 0 = .ok (.aload_n 0, 1) := by decide +kernel
theorem dM_parentOf0_1 : decode cM_parentOf0 1 = .ok (.iload_n 1, 1) := by decide +kernel
theorem dM_parentOf0_2 : decode cM_parentOf0 2 = .ok (.invokevirtual 100, 3) := by decide +kernel
theorem dM_parentOf0_5 : decode cM_parentOf0 5 = .ok (.invokestatic 62, 3) := by decide +kernel
theorem dM_parentOf0_8 : decode cM_parentOf0 8 = .ok (.iload_n 2, 1) := by decide +kernel
theorem dM_parentOf0_9 : decode cM_parentOf0 9 = .ok (.iconst (-1), 1) := by decide +kernel
theorem dM_parentOf0_10 : decode cM_parentOf0 10 = .ok (.if_icmp .lt 17, 3) := by decide +kernel
theorem dM_parentOf0_13 : decode cM_parentOf0 13 = .ok (.iload_n 2, 1) := by decide +kernel
theorem dM_parentOf0_14 : decode cM_parentOf0 14 = .ok (.aload_n 0, 1) := by decide +kernel
theorem dM_parentOf0_15 : decode cM_parentOf0 15 = .ok (.getfield 28, 3) := by decide +kernel
theorem dM_parentOf0_18 : decode cM_parentOf0 18 = .ok (.iload_n 1, 1) := by decide +kernel
theorem dM_parentOf0_19 : decode cM_parentOf0 19 = .ok (.saload, 1) := by decide +kernel
theorem dM_parentOf0_20 : decode cM_parentOf0 20 = .ok (.if_icmp .ge 7, 3) := by decide +kernel
theorem dM_parentOf0_23 : decode cM_parentOf0 23 = .ok (.iconst 1, 1) := by decide +kernel
theorem dM_parentOf0_24 : decode cM_parentOf0 24 = .ok (.goto 4, 3) := by decide +kernel
theorem dM_parentOf0_27 : decode cM_parentOf0 27 = .ok (.iconst 0, 1) := by decide +kernel
theorem dM_parentOf0_28 : decode cM_parentOf0 28 = .ok (.invokestatic 62, 3) := by decide +kernel
theorem dM_parentOf0_31 : decode cM_parentOf0 31 = .ok (.iload_n 2, 1) := by decide +kernel
theorem dM_parentOf0_32 : decode cM_parentOf0 32 = .ok (.ifCond .ge 12, 3) := by decide +kernel
theorem dM_parentOf0_35 : decode cM_parentOf0 35 = .ok (.aload_n 0, 1) := by decide +kernel
theorem dM_parentOf0_36 : decode cM_parentOf0 36 = .ok (.getfield 28, 3) := by decide +kernel
theorem dM_parentOf0_39 : decode cM_parentOf0 39 = .ok (.iload_n 1, 1) := by decide +kernel
theorem dM_parentOf0_40 : decode cM_parentOf0 40 = .ok (.saload, 1) := by decide +kernel
theorem dM_parentOf0_41 : decode cM_parentOf0 41 = .ok (.goto 14, 3) := by decide +kernel
theorem dM_parentOf0_44 : decode cM_parentOf0 44 = .ok (.aload_n 0, 1) := by decide +kernel
theorem dM_parentOf0_45 : decode cM_parentOf0 45 = .ok (.getfield 32, 3) := by decide +kernel
theorem dM_parentOf0_48 : decode cM_parentOf0 48 = .ok (.bipush 16, 2) := by decide +kernel
theorem dM_parentOf0_50 : decode cM_parentOf0 50 = .ok (.iload_n 1, 1) := by decide +kernel
theorem dM_parentOf0_51 : decode cM_parentOf0 51 = .ok (.imul, 1) := by decide +kernel
theorem dM_parentOf0_52 : decode cM_parentOf0 52 = .ok (.iload_n 2, 1) := by decide +kernel
theorem dM_parentOf0_53 : decode cM_parentOf0 53 = .ok (.iadd, 1) := by decide +kernel
theorem dM_parentOf0_54 : decode cM_parentOf0 54 = .ok (.saload, 1) := by decide +kernel
theorem dM_parentOf0_55 : decode cM_parentOf0 55 = .ok (.ireturn, 1) := by decide +kernel
theorem dM_related_0 : decode cM_related 0 = .ok (.aload_n 0, 1) := by decide +kernel
theorem dM_related_1 : decode cM_related 1 = .ok (.iconst 0, 1) := by decide +kernel
theorem dM_related_2 : decode cM_related 2 = .ok (.putfield 113, 3) := by decide +kernel
theorem dM_related_5 : decode cM_related 5 = .ok (.aload_n 0, 1) := by decide +kernel
theorem dM_related_6 : decode cM_related 6 = .ok (.iload_n 1, 1) := by decide +kernel
theorem dM_related_7 : decode cM_related 7 = .ok (.iload_n 2, 1) := by decide +kernel
theorem dM_related_8 : decode cM_related 8 = .ok (.invokevirtual 139, 3) := by decide +kernel
theorem dM_related_11 : decode cM_related 11 = .ok (.ireturn, 1) := by decide +kernel
theorem dM_related_12 : decode cM_related 12 = .ok (.astore_n 3, 1) := by decide +kernel
theorem dM_related_13 : decode cM_related 13 = .ok (.aload_n 0, 1) := by decide +kernel
theorem dM_related_14 : decode cM_related 14 = .ok (.iconst 1, 1) := by decide +kernel
theorem dM_related_15 : decode cM_related 15 = .ok (.putfield 113, 3) := by decide +kernel
theorem dM_related_18 : decode cM_related 18 = .ok (.iconst 0, 1) := by decide +kernel
theorem dM_related_19 : decode cM_related 19 = .ok (.ireturn, 1) := by decide +kernel
theorem dM_related0_0 : decode cM_related0 0 = .ok (.aload_n 0, 1) := by decide +kernel
theorem dM_related0_1 : decode cM_related0 1 = .ok (.iload_n 1, 1) := by decide +kernel
theorem dM_related0_2 : decode cM_related0 2 = .ok (.invokevirtual 100, 3) := by decide +kernel
theorem dM_related0_5 : decode cM_related0 5 = .ok (.ifCond .eq 15, 3) := by decide +kernel
theorem dM_related0_8 : decode cM_related0 8 = .ok (.aload_n 0, 1) := by decide +kernel
theorem dM_related0_9 : decode cM_related0 9 = .ok (.iload_n 2, 1) := by decide +kernel
theorem dM_related0_10 : decode cM_related0 10 = .ok (.invokevirtual 100, 3) := by decide +kernel
theorem dM_related0_13 : decode cM_related0 13 = .ok (.ifCond .eq 7, 3) := by decide +kernel
theorem dM_related0_16 : decode cM_related0 16 = .ok (.iconst 1, 1) := by decide +kernel
theorem dM_related0_17 : decode cM_related0 17 = .ok (.goto 4, 3) := by decide +kernel
theorem dM_related0_20 : decode cM_related0 20 = .ok (.iconst 0, 1) := by decide +kernel
theorem dM_related0_21 : decode cM_related0 21 = .ok (.invokestatic 62, 3) := by decide +kernel
theorem dM_related0_24 : decode cM_related0 24 = .ok (.iload_n 1, 1) := by decide +kernel
theorem dM_related0_25 : decode cM_related0 25 = .ok (.iload_n 2, 1) := by decide +kernel
theorem dM_related0_26 : decode cM_related0 26 = .ok (.if_icmp .ne 7, 3) := by decide +kernel
theorem dM_related0_29 : decode cM_related0 29 = .ok (.iconst 0, 1) := by decide +kernel
theorem dM_related0_30 : decode cM_related0 30 = .ok (.goto 30, 3) := by decide +kernel
theorem dM_related0_33 : decode cM_related0 33 = .ok (.aload_n 0, 1) := by decide +kernel
theorem dM_related0_34 : decode cM_related0 34 = .ok (.iload_n 1, 1) := by decide +kernel
theorem dM_related0_35 : decode cM_related0 35 = .ok (.iload_n 2, 1) := by decide +kernel
theorem dM_related0_36 : decode cM_related0 36 = .ok (.invokevirtual 75, 3) := by decide +kernel
theorem dM_related0_39 : decode cM_related0 39 = .ok (.ifCond .eq 7, 3) := by decide +kernel
theorem dM_related0_42 : decode cM_related0 42 = .ok (.iconst 1, 1) := by decide +kernel
theorem dM_related0_43 : decode cM_related0 43 = .ok (.goto 17, 3) := by decide +kernel
theorem dM_related0_46 : decode cM_related0 46 = .ok (.aload_n 0, 1) := by decide +kernel
theorem dM_related0_47 : decode cM_related0 47 = .ok (.iload_n 2, 1) := by decide +kernel
theorem dM_related0_48 : decode cM_related0 48 = .ok (.iload_n 1, 1) := by decide +kernel
theorem dM_related0_49 : decode cM_related0 49 = .ok (.invokevirtual 75, 3) := by decide +kernel
theorem dM_related0_52 : decode cM_related0 52 = .ok (.ifCond .eq 7, 3) := by decide +kernel
theorem dM_related0_55 : decode cM_related0 55 = .ok (.iconst 2, 1) := by decide +kernel
theorem dM_related0_56 : decode cM_related0 56 = .ok (.goto 4, 3) := by decide +kernel
theorem dM_related0_59 : decode cM_related0 59 = .ok (.iconst 3, 1) := by decide +kernel
theorem dM_related0_60 : decode cM_related0 60 = .ok (.ireturn, 1) := by decide +kernel
theorem dM_apart_0 : decode cM_apart 0 = .ok (.aload_n 0, 1) := by decide +kernel
theorem dM_apart_1 : decode cM_apart 1 = .ok (.iconst 0, 1) := by decide +kernel
theorem dM_apart_2 : decode cM_apart 2 = .ok (.putfield 113, 3) := by decide +kernel
theorem dM_apart_5 : decode cM_apart 5 = .ok (.aload_n 0, 1) := by decide +kernel
theorem dM_apart_6 : decode cM_apart 6 = .ok (.iload_n 1, 1) := by decide +kernel
theorem dM_apart_7 : decode cM_apart 7 = .ok (.iload_n 2, 1) := by decide +kernel
theorem dM_apart_8 : decode cM_apart 8 = .ok (.invokevirtual 142, 3) := by decide +kernel
theorem dM_apart_11 : decode cM_apart 11 = .ok (.ireturn, 1) := by decide +kernel
theorem dM_apart_12 : decode cM_apart 12 = .ok (.astore_n 3, 1) := by decide +kernel
theorem dM_apart_13 : decode cM_apart 13 = .ok (.aload_n 0, 1) := by decide +kernel
theorem dM_apart_14 : decode cM_apart 14 = .ok (.iconst 1, 1) := by decide +kernel
theorem dM_apart_15 : decode cM_apart 15 = .ok (.putfield 113, 3) := by decide +kernel
theorem dM_apart_18 : decode cM_apart 18 = .ok (.iconst 0, 1) := by decide +kernel
theorem dM_apart_19 : decode cM_apart 19 = .ok (.ireturn, 1) := by decide +kernel
theorem dM_apart0_0 : decode cM_apart0 0 = .ok (.aload_n 0, 1) := by decide +kernel
theorem dM_apart0_1 : decode cM_apart0 1 = .ok (.iload_n 1, 1) := by decide +kernel
theorem dM_apart0_2 : decode cM_apart0 2 = .ok (.invokevirtual 100, 3) := by decide +kernel
theorem dM_apart0_5 : decode cM_apart0 5 = .ok (.ifCond .eq 15, 3) := by decide +kernel
theorem dM_apart0_8 : decode cM_apart0 8 = .ok (.aload_n 0, 1) := by decide +kernel
theorem dM_apart0_9 : decode cM_apart0 9 = .ok (.iload_n 2, 1) := by decide +kernel
theorem dM_apart0_10 : decode cM_apart0 10 = .ok (.invokevirtual 100, 3) := by decide +kernel
theorem dM_apart0_13 : decode cM_apart0 13 = .ok (.ifCond .eq 7, 3) := by decide +kernel
theorem dM_apart0_16 : decode cM_apart0 16 = .ok (.iconst 1, 1) := by decide +kernel
theorem dM_apart0_17 : decode cM_apart0 17 = .ok (.goto 4, 3) := by decide +kernel
theorem dM_apart0_20 : decode cM_apart0 20 = .ok (.iconst 0, 1) := by decide +kernel
theorem dM_apart0_21 : decode cM_apart0 21 = .ok (.invokestatic 62, 3) := by decide +kernel
theorem dM_apart0_24 : decode cM_apart0 24 = .ok (.iconst 0, 1) := by decide +kernel
theorem dM_apart0_25 : decode cM_apart0 25 = .ok (.istore_n 3, 1) := by decide +kernel
theorem dM_apart0_26 : decode cM_apart0 26 = .ok (.iconst 0, 1) := by decide +kernel
theorem dM_apart0_27 : decode cM_apart0 27 = .ok (.istore 4, 2) := by decide +kernel
theorem dM_apart0_29 : decode cM_apart0 29 = .ok (.iload 4, 2) := by decide +kernel
theorem dM_apart0_31 : decode cM_apart0 31 = .ok (.iload_n 1, 1) := by decide +kernel
theorem dM_apart0_32 : decode cM_apart0 32 = .ok (.if_icmp .gt 32, 3) := by decide +kernel
theorem dM_apart0_35 : decode cM_apart0 35 = .ok (.aload_n 0, 1) := by decide +kernel
theorem dM_apart0_36 : decode cM_apart0 36 = .ok (.iload 4, 2) := by decide +kernel
theorem dM_apart0_38 : decode cM_apart0 38 = .ok (.iload_n 1, 1) := by decide +kernel
theorem dM_apart0_39 : decode cM_apart0 39 = .ok (.invokevirtual 75, 3) := by decide +kernel
theorem dM_apart0_42 : decode cM_apart0 42 = .ok (.ifCond .eq 16, 3) := by decide +kernel
theorem dM_apart0_45 : decode cM_apart0 45 = .ok (.aload_n 0, 1) := by decide +kernel
theorem dM_apart0_46 : decode cM_apart0 46 = .ok (.iload 4, 2) := by decide +kernel
theorem dM_apart0_48 : decode cM_apart0 48 = .ok (.iload_n 2, 1) := by decide +kernel
theorem dM_apart0_49 : decode cM_apart0 49 = .ok (.invokevirtual 75, 3) := by decide +kernel
theorem dM_apart0_52 : decode cM_apart0 52 = .ok (.ifCond .ne 6, 3) := by decide +kernel
theorem dM_apart0_55 : decode cM_apart0 55 = .ok (.iinc 3 1, 3) := by decide +kernel
theorem dM_apart0_58 : decode cM_apart0 58 = .ok (.iinc 4 1, 3) := by decide +kernel
theorem dM_apart0_61 : decode cM_apart0 61 = .ok (.goto (-32), 3) := by decide +kernel
theorem dM_apart0_64 : decode cM_apart0 64 = .ok (.iload_n 3, 1) := by decide +kernel
theorem dM_apart0_65 : decode cM_apart0 65 = .ok (.ireturn, 1) := by decide +kernel
theorem dM_latest_0 : decode cM_latest 0 = .ok (.aload_n 0, 1) := by decide +kernel
theorem dM_latest_1 : decode cM_latest 1 = .ok (.iconst 0, 1) := by decide +kernel
theorem dM_latest_2 : decode cM_latest 2 = .ok (.putfield 113, 3) := by decide +kernel
theorem dM_latest_5 : decode cM_latest 5 = .ok (.aload_n 0, 1) := by decide +kernel
theorem dM_latest_6 : decode cM_latest 6 = .ok (.iload_n 1, 1) := by decide +kernel
theorem dM_latest_7 : decode cM_latest 7 = .ok (.iload_n 2, 1) := by decide +kernel
theorem dM_latest_8 : decode cM_latest 8 = .ok (.iload_n 3, 1) := by decide +kernel
theorem dM_latest_9 : decode cM_latest 9 = .ok (.invokevirtual 145, 3) := by decide +kernel
theorem dM_latest_12 : decode cM_latest 12 = .ok (.ireturn, 1) := by decide +kernel
theorem dM_latest_13 : decode cM_latest 13 = .ok (.astore 4, 2) := by decide +kernel
theorem dM_latest_15 : decode cM_latest 15 = .ok (.aload_n 0, 1) := by decide +kernel
theorem dM_latest_16 : decode cM_latest 16 = .ok (.iconst 1, 1) := by decide +kernel
theorem dM_latest_17 : decode cM_latest 17 = .ok (.putfield 113, 3) := by decide +kernel
theorem dM_latest_20 : decode cM_latest 20 = .ok (.iconst 0, 1) := by decide +kernel
theorem dM_latest_21 : decode cM_latest 21 = .ok (.ireturn, 1) := by decide +kernel
theorem dM_latest0_0 : decode cM_latest0 0 = .ok (.aload_n 0, 1) := by decide +kernel
theorem dM_latest0_1 : decode cM_latest0 1 = .ok (.iload_n 1, 1) := by decide +kernel
theorem dM_latest0_2 : decode cM_latest0 2 = .ok (.invokevirtual 100, 3) := by decide +kernel
theorem dM_latest0_5 : decode cM_latest0 5 = .ok (.ifCond .eq 15, 3) := by decide +kernel
theorem dM_latest0_8 : decode cM_latest0 8 = .ok (.aload_n 0, 1) := by decide +kernel
theorem dM_latest0_9 : decode cM_latest0 9 = .ok (.iload_n 2, 1) := by decide +kernel
theorem dM_latest0_10 : decode cM_latest0 10 = .ok (.invokevirtual 100, 3) := by decide +kernel
theorem dM_latest0_13 : decode cM_latest0 13 = .ok (.ifCond .eq 7, 3) := by decide +kernel
theorem dM_latest0_16 : decode cM_latest0 16 = .ok (.iconst 1, 1) := by decide +kernel
theorem dM_latest0_17 : decode cM_latest0 17 = .ok (.goto 4, 3) := by decide +kernel
theorem dM_latest0_20 : decode cM_latest0 20 = .ok (.iconst 0, 1) := by decide +kernel
theorem dM_latest0_21 : decode cM_latest0 21 = .ok (.invokestatic 62, 3) := by decide +kernel
theorem dM_latest0_24 : decode cM_latest0 24 = .ok (.iload_n 1, 1) := by decide +kernel
theorem dM_latest0_25 : decode cM_latest0 25 = .ok (.iload_n 3, 1) := by decide +kernel
theorem dM_latest0_26 : decode cM_latest0 26 = .ok (.if_icmp .ge 7, 3) := by decide +kernel
theorem dM_latest0_29 : decode cM_latest0 29 = .ok (.iload_n 1, 1) := by decide +kernel
theorem dM_latest0_30 : decode cM_latest0 30 = .ok (.goto 10, 3) := by decide +kernel
theorem dM_latest0_33 : decode cM_latest0 33 = .ok (.iload_n 3, 1) := by decide +kernel
theorem dM_latest0_34 : decode cM_latest0 34 = .ok (.iconst 0, 1) := by decide +kernel
theorem dM_latest0_35 : decode cM_latest0 35 = .ok (.invokestatic 105, 3) := by decide +kernel
theorem dM_latest0_38 : decode cM_latest0 38 = .ok (.iconst 1, 1) := by decide +kernel
theorem dM_latest0_39 : decode cM_latest0 39 = .ok (.isub, 1) := by decide +kernel
theorem dM_latest0_40 : decode cM_latest0 40 = .ok (.istore 4, 2) := by decide +kernel
theorem dM_latest0_42 : decode cM_latest0 42 = .ok (.iload 4, 2) := by decide +kernel
theorem dM_latest0_44 : decode cM_latest0 44 = .ok (.ifCond .lt 32, 3) := by decide +kernel
theorem dM_latest0_47 : decode cM_latest0 47 = .ok (.aload_n 0, 1) := by decide +kernel
theorem dM_latest0_48 : decode cM_latest0 48 = .ok (.iload 4, 2) := by decide +kernel
theorem dM_latest0_50 : decode cM_latest0 50 = .ok (.iload_n 1, 1) := by decide +kernel
theorem dM_latest0_51 : decode cM_latest0 51 = .ok (.invokevirtual 75, 3) := by decide +kernel
theorem dM_latest0_54 : decode cM_latest0 54 = .ok (.ifCond .eq 16, 3) := by decide +kernel
theorem dM_latest0_57 : decode cM_latest0 57 = .ok (.aload_n 0, 1) := by decide +kernel
theorem dM_latest0_58 : decode cM_latest0 58 = .ok (.iload 4, 2) := by decide +kernel
theorem dM_latest0_60 : decode cM_latest0 60 = .ok (.iload_n 2, 1) := by decide +kernel
theorem dM_latest0_61 : decode cM_latest0 61 = .ok (.invokevirtual 75, 3) := by decide +kernel
theorem dM_latest0_64 : decode cM_latest0 64 = .ok (.ifCond .ne 6, 3) := by decide +kernel
theorem dM_latest0_67 : decode cM_latest0 67 = .ok (.iload 4, 2) := by decide +kernel
theorem dM_latest0_69 : decode cM_latest0 69 = .ok (.ireturn, 1) := by decide +kernel
theorem dM_latest0_70 : decode cM_latest0 70 = .ok (.iinc 4 (-1), 3) := by decide +kernel
theorem dM_latest0_73 : decode cM_latest0 73 = .ok (.goto (-31), 3) := by decide +kernel
theorem dM_latest0_76 : decode cM_latest0 76 = .ok (.iconst (-1), 1) := by decide +kernel
theorem dM_latest0_77 : decode cM_latest0 77 = .ok (.ireturn, 1) := by decide +kernel
theorem dM_head_0 : decode cM_head 0 = .ok (.aload_n 0, 1) := by decide +kernel
theorem dM_head_1 : decode cM_head 1 = .ok (.iconst 0, 1) := by decide +kernel
theorem dM_head_2 : decode cM_head 2 = .ok (.putfield 113, 3) := by decide +kernel
theorem dM_head_5 : decode cM_head 5 = .ok (.aload_n 0, 1) := by decide +kernel
theorem dM_head_6 : decode cM_head 6 = .ok (.iload_n 1, 1) := by decide +kernel
theorem dM_head_7 : decode cM_head 7 = .ok (.invokevirtual 149, 3) := by decide +kernel
theorem dM_head_10 : decode cM_head 10 = .ok (.ireturn, 1) := by decide +kernel
theorem dM_head_11 : decode cM_head 11 = .ok (.astore_n 2, 1) := by decide +kernel
theorem dM_head_12 : decode cM_head 12 = .ok (.aload_n 0, 1) := by decide +kernel
theorem dM_head_13 : decode cM_head 13 = .ok (.iconst 1, 1) := by decide +kernel
theorem dM_head_14 : decode cM_head 14 = .ok (.putfield 113, 3) := by decide +kernel
theorem dM_head_17 : decode cM_head 17 = .ok (.iconst 0, 1) := by decide +kernel
theorem dM_head_18 : decode cM_head 18 = .ok (.ireturn, 1) := by decide +kernel
theorem dM_head0_0 : decode cM_head0 0 = .ok (.aload_n 0, 1) := by decide +kernel
theorem dM_head0_1 : decode cM_head0 1 = .ok (.aload_n 0, 1) := by decide +kernel
theorem dM_head0_2 : decode cM_head0 2 = .ok (.getfield 41, 3) := by decide +kernel
theorem dM_head0_5 : decode cM_head0 5 = .ok (.invokevirtual 83, 3) := by decide +kernel
theorem dM_head0_8 : decode cM_head0 8 = .ok (.istore_n 2, 1) := by decide +kernel
theorem dM_head0_9 : decode cM_head0 9 = .ok (.iload_n 1, 1) := by decide +kernel
theorem dM_head0_10 : decode cM_head0 10 = .ok (.ifCond .lt 12, 3) := by decide +kernel
theorem dM_head0_13 : decode cM_head0 13 = .ok (.iload_n 1, 1) := by decide +kernel
theorem dM_head0_14 : decode cM_head0 14 = .ok (.iload_n 2, 1) := by decide +kernel
theorem dM_head0_15 : decode cM_head0 15 = .ok (.if_icmp .ge 7, 3) := by decide +kernel
theorem dM_head0_18 : decode cM_head0 18 = .ok (.iconst 1, 1) := by decide +kernel
theorem dM_head0_19 : decode cM_head0 19 = .ok (.goto 4, 3) := by decide +kernel
theorem dM_head0_22 : decode cM_head0 22 = .ok (.iconst 0, 1) := by decide +kernel
theorem dM_head0_23 : decode cM_head0 23 = .ok (.invokestatic 62, 3) := by decide +kernel
theorem dM_head0_26 : decode cM_head0 26 = .ok (.aload_n 0, 1) := by decide +kernel
theorem dM_head0_27 : decode cM_head0 27 = .ok (.getfield 41, 3) := by decide +kernel
theorem dM_head0_30 : decode cM_head0 30 = .ok (.iload_n 1, 1) := by decide +kernel
theorem dM_head0_31 : decode cM_head0 31 = .ok (.iaload, 1) := by decide +kernel
theorem dM_head0_32 : decode cM_head0 32 = .ok (.ireturn, 1) := by decide +kernel
theorem dM_critical_0 : decode cM_critical 0 = .ok (.aload_n 0, 1) := by decide +kernel
theorem dM_critical_1 : decode cM_critical 1 = .ok (.iconst 0, 1) := by decide +kernel
theorem dM_critical_2 : decode cM_critical 2 = .ok (.putfield 113, 3) := by decide +kernel
theorem dM_critical_5 : decode cM_critical 5 = .ok (.aload_n 0, 1) := by decide +kernel
theorem dM_critical_6 : decode cM_critical 6 = .ok (.invokevirtual 152, 3) := by decide +kernel
theorem dM_critical_9 : decode cM_critical 9 = .ok (.ireturn, 1) := by decide +kernel
theorem dM_critical0_0 : decode cM_critical0 0 = .ok (.iconst 0, 1) := by decide +kernel
theorem dM_critical0_1 : decode cM_critical0 1 = .ok (.istore_n 1, 1) := by decide +kernel
theorem dM_critical0_2 : decode cM_critical0 2 = .ok (.iconst 0, 1) := by decide +kernel
theorem dM_critical0_3 : decode cM_critical0 3 = .ok (.istore_n 2, 1) := by decide +kernel
theorem dM_critical0_4 : decode cM_critical0 4 = .ok (.iload_n 2, 1) := by decide +kernel
theorem dM_critical0_5 : decode cM_critical0 5 = .ok (.aload_n 0, 1) := by decide +kernel
theorem dM_critical0_6 : decode cM_critical0 6 = .ok (.getfield 55, 3) := by decide +kernel
theorem dM_critical0_9 : decode cM_critical0 9 = .ok (.if_icmp .ge 20, 3) := by decide +kernel
theorem dM_critical0_12 : decode cM_critical0 12 = .ok (.aload_n 0, 1) := by decide +kernel
theorem dM_critical0_13 : decode cM_critical0 13 = .ok (.iload_n 2, 1) := by decide +kernel
theorem dM_critical0_14 : decode cM_critical0 14 = .ok (.invokevirtual 110, 3) := by decide +kernel
theorem dM_critical0_17 : decode cM_critical0 17 = .ok (.ifCond .eq 6, 3) := by decide +kernel
theorem dM_critical0_20 : decode cM_critical0 20 = .ok (.iinc 1 1, 3) := by decide +kernel
theorem dM_critical0_23 : decode cM_critical0 23 = .ok (.iinc 2 1, 3) := by decide +kernel
theorem dM_critical0_26 : decode cM_critical0 26 = .ok (.goto (-22), 3) := by decide +kernel
theorem dM_critical0_29 : decode cM_critical0 29 = .ok (.iload_n 1, 1) := by decide +kernel
theorem dM_critical0_30 : decode cM_critical0 30 = .ok (.ireturn, 1) := by decide +kernel
theorem dM_isCritical_0 : decode cM_isCritical 0 = .ok (.iconst 0, 1) := by decide +kernel
theorem dM_isCritical_1 : decode cM_isCritical 1 = .ok (.istore_n 2, 1) := by decide +kernel
theorem dM_isCritical_2 : decode cM_isCritical 2 = .ok (.iload_n 2, 1) := by decide +kernel
theorem dM_isCritical_3 : decode cM_isCritical 3 = .ok (.aload_n 0, 1) := by decide +kernel
theorem dM_isCritical_4 : decode cM_isCritical 4 = .ok (.getfield 47, 3) := by decide +kernel
theorem dM_isCritical_7 : decode cM_isCritical 7 = .ok (.if_icmp .ge 49, 3) := by decide +kernel
theorem dM_isCritical_10 : decode cM_isCritical 10 = .ok (.aload_n 0, 1) := by decide +kernel
theorem dM_isCritical_11 : decode cM_isCritical 11 = .ok (.getfield 35, 3) := by decide +kernel
theorem dM_isCritical_14 : decode cM_isCritical 14 = .ok (.bipush 16, 2) := by decide +kernel
theorem dM_isCritical_16 : decode cM_isCritical 16 = .ok (.iload_n 1, 1) := by decide +kernel
theorem dM_isCritical_17 : decode cM_isCritical 17 = .ok (.imul, 1) := by decide +kernel
theorem dM_isCritical_18 : decode cM_isCritical 18 = .ok (.iload_n 2, 1) := by decide +kernel
theorem dM_isCritical_19 : decode cM_isCritical 19 = .ok (.iadd, 1) := by decide +kernel
theorem dM_isCritical_20 : decode cM_isCritical 20 = .ok (.saload, 1) := by decide +kernel
theorem dM_isCritical_21 : decode cM_isCritical 21 = .ok (.istore_n 3, 1) := by decide +kernel
theorem dM_isCritical_22 : decode cM_isCritical 22 = .ok (.iload_n 3, 1) := by decide +kernel
theorem dM_isCritical_23 : decode cM_isCritical 23 = .ok (.aload_n 0, 1) := by decide +kernel
theorem dM_isCritical_24 : decode cM_isCritical 24 = .ok (.getfield 13, 3) := by decide +kernel
theorem dM_isCritical_27 : decode cM_isCritical 27 = .ok (.iload_n 2, 1) := by decide +kernel
theorem dM_isCritical_28 : decode cM_isCritical 28 = .ok (.iaload, 1) := by decide +kernel
theorem dM_isCritical_29 : decode cM_isCritical 29 = .ok (.if_icmp .ge 21, 3) := by decide +kernel
theorem dM_isCritical_32 : decode cM_isCritical 32 = .ok (.aload_n 0, 1) := by decide +kernel
theorem dM_isCritical_33 : decode cM_isCritical 33 = .ok (.iload_n 1, 1) := by decide +kernel
theorem dM_isCritical_34 : decode cM_isCritical 34 = .ok (.aload_n 0, 1) := by decide +kernel
theorem dM_isCritical_35 : decode cM_isCritical 35 = .ok (.getfield 18, 3) := by decide +kernel
theorem dM_isCritical_38 : decode cM_isCritical 38 = .ok (.iload_n 2, 1) := by decide +kernel
theorem dM_isCritical_39 : decode cM_isCritical 39 = .ok (.aaload, 1) := by decide +kernel
theorem dM_isCritical_40 : decode cM_isCritical 40 = .ok (.iload_n 3, 1) := by decide +kernel
theorem dM_isCritical_41 : decode cM_isCritical 41 = .ok (.iaload, 1) := by decide +kernel
theorem dM_isCritical_42 : decode cM_isCritical 42 = .ok (.invokevirtual 75, 3) := by decide +kernel
theorem dM_isCritical_45 : decode cM_isCritical 45 = .ok (.ifCond .ne 5, 3) := by decide +kernel
theorem dM_isCritical_48 : decode cM_isCritical 48 = .ok (.iconst 0, 1) := by decide +kernel
theorem dM_isCritical_49 : decode cM_isCritical 49 = .ok (.ireturn, 1) := by decide +kernel
theorem dM_isCritical_50 : decode cM_isCritical 50 = .ok (.iinc 2 1, 3) := by decide +kernel
theorem dM_isCritical_53 : decode cM_isCritical 53 = .ok (.goto (-51), 3) := by decide +kernel
theorem dM_isCritical_56 : decode cM_isCritical 56 = .ok (.iconst 1, 1) := by decide +kernel
theorem dM_isCritical_57 : decode cM_isCritical 57 = .ok (.ireturn, 1) := by decide +kernel
theorem dM_base_0 : decode cM_base 0 = .ok (.aload_n 0, 1) := by decide +kernel
theorem dM_base_1 : decode cM_base 1 = .ok (.iconst 0, 1) := by decide +kernel
theorem dM_base_2 : decode cM_base 2 = .ok (.putfield 113, 3) := by decide +kernel
theorem dM_base_5 : decode cM_base 5 = .ok (.aload_n 0, 1) := by decide +kernel
theorem dM_base_6 : decode cM_base 6 = .ok (.iload_n 1, 1) := by decide +kernel
theorem dM_base_7 : decode cM_base 7 = .ok (.invokevirtual 155, 3) := by decide +kernel
theorem dM_base_10 : decode cM_base 10 = .ok (.ireturn, 1) := by decide +kernel
theorem dM_base0_0 : decode cM_base0 0 = .ok (.iload_n 1, 1) := by decide +kernel
theorem dM_base0_1 : decode cM_base0 1 = .ok (.aload_n 0, 1) := by decide +kernel
theorem dM_base0_2 : decode cM_base0 2 = .ok (.getfield 55, 3) := by decide +kernel
theorem dM_base0_5 : decode cM_base0 5 = .ok (.if_icmp .ge 13, 3) := by decide +kernel
theorem dM_base0_8 : decode cM_base0 8 = .ok (.iload_n 1, 1) := by decide +kernel
theorem dM_base0_9 : decode cM_base0 9 = .ok (.iconst 0, 1) := by decide +kernel
theorem dM_base0_10 : decode cM_base0 10 = .ok (.invokestatic 105, 3) := by decide +kernel
theorem dM_base0_13 : decode cM_base0 13 = .ok (.iconst 1, 1) := by decide +kernel
theorem dM_base0_14 : decode cM_base0 14 = .ok (.isub, 1) := by decide +kernel
theorem dM_base0_15 : decode cM_base0 15 = .ok (.goto 9, 3) := by decide +kernel
theorem dM_base0_18 : decode cM_base0 18 = .ok (.aload_n 0, 1) := by decide +kernel
theorem dM_base0_19 : decode cM_base0 19 = .ok (.getfield 55, 3) := by decide +kernel
theorem dM_base0_22 : decode cM_base0 22 = .ok (.iconst 1, 1) := by decide +kernel
theorem dM_base0_23 : decode cM_base0 23 = .ok (.isub, 1) := by decide +kernel
theorem dM_base0_24 : decode cM_base0 24 = .ok (.istore_n 2, 1) := by decide +kernel
theorem dM_base0_25 : decode cM_base0 25 = .ok (.iload_n 2, 1) := by decide +kernel
theorem dM_base0_26 : decode cM_base0 26 = .ok (.ifCond .lt 19, 3) := by decide +kernel
theorem dM_base0_29 : decode cM_base0 29 = .ok (.aload_n 0, 1) := by decide +kernel
theorem dM_base0_30 : decode cM_base0 30 = .ok (.iload_n 2, 1) := by decide +kernel
theorem dM_base0_31 : decode cM_base0 31 = .ok (.invokevirtual 110, 3) := by decide +kernel
theorem dM_base0_34 : decode cM_base0 34 = .ok (.ifCond .eq 5, 3) := by decide +kernel
theorem dM_base0_37 : decode cM_base0 37 = .ok (.iload_n 2, 1) := by decide +kernel
theorem dM_base0_38 : decode cM_base0 38 = .ok (.ireturn, 1) := by decide +kernel
theorem dM_base0_39 : decode cM_base0 39 = .ok (.iinc 2 (-1), 3) := by decide +kernel
theorem dM_base0_42 : decode cM_base0 42 = .ok (.goto (-17), 3) := by decide +kernel
theorem dM_base0_45 : decode cM_base0 45 = .ok (.iconst (-1), 1) := by decide +kernel
theorem dM_base0_46 : decode cM_base0 46 = .ok (.ireturn, 1) := by decide +kernel
