theorem dE_related_0 : decode cE_related 0 = .ok (.aload_n 0, 1) := by decide +kernel
theorem dE_related_1 : decode cE_related 1 = .ok (.iload_n 1, 1) := by decide +kernel
theorem dE_related_2 : decode cE_related 2 = .ok (.iload_n 2, 1) := by decide +kernel
theorem dE_related_3 : decode cE_related 3 = .ok (.invokevirtual 124, 3) := by decide +kernel
theorem dE_related_6 : decode cE_related 6 = .ok (.ifCond .eq 5, 3) := by decide +kernel
theorem dE_related_9 : decode cE_related 9 = .ok (.iconst 1, 1) := by decide +kernel
theorem dE_related_10 : decode cE_related 10 = .ok (.ireturn, 1) := by decide +kernel
theorem dE_related_11 : decode cE_related 11 = .ok (.aload_n 0, 1) := by decide +kernel
theorem dE_related_12 : decode cE_related 12 = .ok (.iload_n 2, 1) := by decide +kernel
theorem dE_related_13 : decode cE_related 13 = .ok (.iload_n 1, 1) := by decide +kernel
theorem dE_related_14 : decode cE_related 14 = .ok (.invokevirtual 124, 3) := by decide +kernel
theorem dE_related_17 : decode cE_related 17 = .ok (.ifCond .eq 5, 3) := by decide +kernel
theorem dE_related_20 : decode cE_related 20 = .ok (.iconst 2, 1) := by decide +kernel
theorem dE_related_21 : decode cE_related 21 = .ok (.ireturn, 1) := by decide +kernel
theorem dE_related_22 : decode cE_related 22 = .ok (.iload_n 1, 1) := by decide +kernel
theorem dE_related_23 : decode cE_related 23 = .ok (.iload_n 2, 1) := by decide +kernel
theorem dE_related_24 : decode cE_related 24 = .ok (.if_icmp .ne 7, 3) := by decide +kernel
theorem dE_related_27 : decode cE_related 27 = .ok (.iconst 0, 1) := by decide +kernel
theorem dE_related_28 : decode cE_related 28 = .ok (.goto 4, 3) := by decide +kernel
theorem dE_related_31 : decode cE_related 31 = .ok (.iconst 3, 1) := by decide +kernel
theorem dE_related_32 : decode cE_related 32 = .ok (.ireturn, 1) := by decide +kernel
theorem dL_apart_0 : decode cL_apart 0 = .ok (.aload_n 3, 1) := by decide +kernel
theorem dL_apart_1 : decode cL_apart 1 = .ok (.iconst 0, 1) := by decide +kernel
theorem dL_apart_2 : decode cL_apart 2 = .ok (.aload_n 0, 1) := by decide +kernel
theorem dL_apart_3 : decode cL_apart 3 = .ok (.iload_n 1, 1) := by decide +kernel
theorem dL_apart_4 : decode cL_apart 4 = .ok (.iload_n 2, 1) := by decide +kernel
theorem dL_apart_5 : decode cL_apart 5 = .ok (.invokevirtual 41, 3) := by decide +kernel
theorem dL_apart_8 : decode cL_apart 8 = .ok (.i2l, 1) := by decide +kernel
theorem dL_apart_9 : decode cL_apart 9 = .ok (.lastore, 1) := by decide +kernel
theorem dL_apart_10 : decode cL_apart 10 = .ok (.goto 7, 3) := by decide +kernel
theorem dL_apart_13 : decode cL_apart 13 = .ok (.astore 4, 2) := by decide +kernel
theorem dL_apart_15 : decode cL_apart 15 = .ok (.iconst 1, 1) := by decide +kernel
theorem dL_apart_16 : decode cL_apart 16 = .ok (.ireturn, 1) := by decide +kernel
theorem dL_apart_17 : decode cL_apart 17 = .ok (.iconst 0, 1) := by decide +kernel
theorem dL_apart_18 : decode cL_apart 18 = .ok (.ireturn, 1) := by decide +kernel
theorem dE_apart_0 : decode cE_apart 0 = .ok (.aload_n 0, 1) := by decide +kernel
theorem dE_apart_1 : decode cE_apart 1 = .ok (.iload_n 1, 1) := by decide +kernel
theorem dE_apart_2 : decode cE_apart 2 = .ok (.invokevirtual 100, 3) := by decide +kernel
theorem dE_apart_5 : decode cE_apart 5 = .ok (.astore_n 3, 1) := by decide +kernel
theorem dE_apart_6 : decode cE_apart 6 = .ok (.aload_n 0, 1) := by decide +kernel
theorem dE_apart_7 : decode cE_apart 7 = .ok (.iload_n 2, 1) := by decide +kernel
theorem dE_apart_8 : decode cE_apart 8 = .ok (.invokevirtual 100, 3) := by decide +kernel
theorem dE_apart_11 : decode cE_apart 11 = .ok (.astore 4, 2) := by decide +kernel
theorem dE_apart_13 : decode cE_apart 13 = .ok (.iconst 0, 1) := by decide +kernel
theorem dE_apart_14 : decode cE_apart 14 = .ok (.istore 5, 2) := by decide +kernel
theorem dE_apart_16 : decode cE_apart 16 = .ok (.iconst 0, 1) := by decide +kernel
theorem dE_apart_17 : decode cE_apart 17 = .ok (.istore 6, 2) := by decide +kernel
theorem dE_apart_19 : decode cE_apart 19 = .ok (.iload 6, 2) := by decide +kernel
theorem dE_apart_21 : decode cE_apart 21 = .ok (.bipush 16, 2) := by decide +kernel
theorem dE_apart_23 : decode cE_apart 23 = .ok (.if_icmp .ge 34, 3) := by decide +kernel
theorem dE_apart_26 : decode cE_apart 26 = .ok (.iload 5, 2) := by decide +kernel
theorem dE_apart_28 : decode cE_apart 28 = .ok (.iconst 0, 1) := by decide +kernel
theorem dE_apart_29 : decode cE_apart 29 = .ok (.aload_n 3, 1) := by decide +kernel
theorem dE_apart_30 : decode cE_apart 30 = .ok (.iload_n 1, 1) := by decide +kernel
theorem dE_apart_31 : decode cE_apart 31 = .ok (.iload 6, 2) := by decide +kernel
theorem dE_apart_33 : decode cE_apart 33 = .ok (.invokevirtual 128, 3) := by decide +kernel
theorem dE_apart_36 : decode cE_apart 36 = .ok (.aload 4, 2) := by decide +kernel
theorem dE_apart_38 : decode cE_apart 38 = .ok (.iload_n 2, 1) := by decide +kernel
theorem dE_apart_39 : decode cE_apart 39 = .ok (.iload 6, 2) := by decide +kernel
theorem dE_apart_41 : decode cE_apart 41 = .ok (.invokevirtual 128, 3) := by decide +kernel
theorem dE_apart_44 : decode cE_apart 44 = .ok (.isub, 1) := by decide +kernel
theorem dE_apart_45 : decode cE_apart 45 = .ok (.invokestatic 131, 3) := by decide +kernel
theorem dE_apart_48 : decode cE_apart 48 = .ok (.iadd, 1) := by decide +kernel
theorem dE_apart_49 : decode cE_apart 49 = .ok (.istore 5, 2) := by decide +kernel
theorem dE_apart_51 : decode cE_apart 51 = .ok (.iinc 6 1, 3) := by decide +kernel
theorem dE_apart_54 : decode cE_apart 54 = .ok (.goto (-35), 3) := by decide +kernel
theorem dE_apart_57 : decode cE_apart 57 = .ok (.iload 5, 2) := by decide +kernel
theorem dE_apart_59 : decode cE_apart 59 = .ok (.ireturn, 1) := by decide +kernel
theorem dL_latest_0 : decode cL_latest 0 = .ok (.aload 4, 2) := by decide +kernel
theorem dL_latest_2 : decode cL_latest 2 = .ok (.iconst 0, 1) := by decide +kernel
theorem dL_latest_3 : decode cL_latest 3 = .ok (.aload_n 0, 1) := by decide +kernel
theorem dL_latest_4 : decode cL_latest 4 = .ok (.iload_n 1, 1) := by decide +kernel
theorem dL_latest_5 : decode cL_latest 5 = .ok (.iload_n 2, 1) := by decide +kernel
theorem dL_latest_6 : decode cL_latest 6 = .ok (.iload_n 3, 1) := by decide +kernel
theorem dL_latest_7 : decode cL_latest 7 = .ok (.invokevirtual 44, 3) := by decide +kernel
theorem dL_latest_10 : decode cL_latest 10 = .ok (.i2l, 1) := by decide +kernel
theorem dL_latest_11 : decode cL_latest 11 = .ok (.lastore, 1) := by decide +kernel
theorem dL_latest_12 : decode cL_latest 12 = .ok (.goto 7, 3) := by decide +kernel
theorem dL_latest_15 : decode cL_latest 15 = .ok (.astore 5, 2) := by decide +kernel
theorem dL_latest_17 : decode cL_latest 17 = .ok (.iconst 1, 1) := by decide +kernel
theorem dL_latest_18 : decode cL_latest 18 = .ok (.ireturn, 1) := by decide +kernel
theorem dL_latest_19 : decode cL_latest 19 = .ok (.iconst 0, 1) := by decide +kernel
theorem dL_latest_20 : decode cL_latest 20 = .ok (.ireturn, 1) := by decide +kernel
theorem dE_latest_0 : decode cE_latest 0 = .ok (.aload_n 0, 1) := by decide +kernel
theorem dE_latest_1 : decode cE_latest 1 = .ok (.iload_n 1, 1) := by decide +kernel
theorem dE_latest_2 : decode cE_latest 2 = .ok (.invokevirtual 100, 3) := by decide +kernel
theorem dE_latest_5 : decode cE_latest 5 = .ok (.astore 4, 2) := by decide +kernel
theorem dE_latest_7 : decode cE_latest 7 = .ok (.aload_n 0, 1) := by decide +kernel
theorem dE_latest_8 : decode cE_latest 8 = .ok (.iload_n 2, 1) := by decide +kernel
theorem dE_latest_9 : decode cE_latest 9 = .ok (.invokevirtual 100, 3) := by decide +kernel
theorem dE_latest_12 : decode cE_latest 12 = .ok (.astore 5, 2) := by decide +kernel
theorem dE_latest_14 : decode cE_latest 14 = .ok (.iload_n 3, 1) := by decide +kernel
theorem dE_latest_15 : decode cE_latest 15 = .ok (.invokestatic 136, 3) := by decide +kernel
theorem dE_latest_18 : decode cE_latest 18 = .ok (.istore 6, 2) := by decide +kernel
theorem dE_latest_20 : decode cE_latest 20 = .ok (.aload_n 0, 1) := by decide +kernel
theorem dE_latest_21 : decode cE_latest 21 = .ok (.getfield 28, 3) := by decide +kernel
theorem dE_latest_24 : decode cE_latest 24 = .ok (.astore 7, 2) := by decide +kernel
theorem dE_latest_26 : decode cE_latest 26 = .ok (.aload 7, 2) := by decide +kernel
theorem dE_latest_28 : decode cE_latest 28 = .ok (.ifnull 90, 3) := by decide +kernel
theorem dE_latest_31 : decode cE_latest 31 = .ok (.aload 7, 2) := by decide +kernel
theorem dE_latest_33 : decode cE_latest 33 = .ok (.getfield 104, 3) := by decide +kernel
theorem dE_latest_36 : decode cE_latest 36 = .ok (.getfield 82, 3) := by decide +kernel
theorem dE_latest_39 : decode cE_latest 39 = .ok (.istore 8, 2) := by decide +kernel
theorem dE_latest_41 : decode cE_latest 41 = .ok (.aload 7, 2) := by decide +kernel
theorem dE_latest_43 : decode cE_latest 43 = .ok (.aload 4, 2) := by decide +kernel
theorem dE_latest_45 : decode cE_latest 45 = .ok (.iload_n 1, 1) := by decide +kernel
theorem dE_latest_46 : decode cE_latest 46 = .ok (.iload 8, 2) := by decide +kernel
theorem dE_latest_48 : decode cE_latest 48 = .ok (.invokevirtual 128, 3) := by decide +kernel
theorem dE_latest_51 : decode cE_latest 51 = .ok (.iconst 1, 1) := by decide +kernel
theorem dE_latest_52 : decode cE_latest 52 = .ok (.isub, 1) := by decide +kernel
theorem dE_latest_53 : decode cE_latest 53 = .ok (.invokevirtual 139, 3) := by decide +kernel
theorem dE_latest_56 : decode cE_latest 56 = .ok (.istore 9, 2) := by decide +kernel
theorem dE_latest_58 : decode cE_latest 58 = .ok (.aload 7, 2) := by decide +kernel
theorem dE_latest_60 : decode cE_latest 60 = .ok (.aload 5, 2) := by decide +kernel
theorem dE_latest_62 : decode cE_latest 62 = .ok (.iload_n 2, 1) := by decide +kernel
theorem dE_latest_63 : decode cE_latest 63 = .ok (.iload 8, 2) := by decide +kernel
theorem dE_latest_65 : decode cE_latest 65 = .ok (.invokevirtual 128, 3) := by decide +kernel
theorem dE_latest_68 : decode cE_latest 68 = .ok (.invokevirtual 139, 3) := by decide +kernel
theorem dE_latest_71 : decode cE_latest 71 = .ok (.istore 10, 2) := by decide +kernel
theorem dE_latest_73 : decode cE_latest 73 = .ok (.iload 6, 2) := by decide +kernel
theorem dE_latest_75 : decode cE_latest 75 = .ok (.aload 7, 2) := by decide +kernel
theorem dE_latest_77 : decode cE_latest 77 = .ok (.getfield 142, 3) := by decide +kernel
theorem dE_latest_80 : decode cE_latest 80 = .ok (.iload 9, 2) := by decide +kernel
theorem dE_latest_82 : decode cE_latest 82 = .ok (.invokestatic 145, 3) := by decide +kernel
theorem dE_latest_85 : decode cE_latest 85 = .ok (.invokestatic 145, 3) := by decide +kernel
theorem dE_latest_88 : decode cE_latest 88 = .ok (.istore 11, 2) := by decide +kernel
theorem dE_latest_90 : decode cE_latest 90 = .ok (.iload 11, 2) := by decide +kernel
theorem dE_latest_92 : decode cE_latest 92 = .ok (.aload 7, 2) := by decide +kernel
theorem dE_latest_94 : decode cE_latest 94 = .ok (.getfield 115, 3) := by decide +kernel
theorem dE_latest_97 : decode cE_latest 97 = .ok (.iload 10, 2) := by decide +kernel
theorem dE_latest_99 : decode cE_latest 99 = .ok (.invokestatic 131, 3) := by decide +kernel
theorem dE_latest_102 : decode cE_latest 102 = .ok (.if_icmp .lt 6, 3) := by decide +kernel
theorem dE_latest_105 : decode cE_latest 105 = .ok (.iload 11, 2) := by decide +kernel
theorem dE_latest_107 : decode cE_latest 107 = .ok (.ireturn, 1) := by decide +kernel
theorem dE_latest_108 : decode cE_latest 108 = .ok (.aload 7, 2) := by decide +kernel
theorem dE_latest_110 : decode cE_latest 110 = .ok (.getfield 148, 3) := by decide +kernel
theorem dE_latest_113 : decode cE_latest 113 = .ok (.astore 7, 2) := by decide +kernel
theorem dE_latest_115 : decode cE_latest 115 = .ok (.goto (-89), 3) := by decide +kernel
theorem dE_latest_118 : decode cE_latest 118 = .ok (.iconst (-1), 1) := by decide +kernel
theorem dE_latest_119 : decode cE_latest 119 = .ok (.ireturn, 1) := by decide +kernel
theorem dL_head_0 : decode cL_head 0 = .ok (.aload_n 2, 1) := by decide +kernel
theorem dL_head_1 : decode cL_head 1 = .ok (.iconst 0, 1) := by decide +kernel
theorem dL_head_2 : decode cL_head 2 = .ok (.aload_n 0, 1) := by decide +kernel
theorem dL_head_3 : decode cL_head 3 = .ok (.iload_n 1, 1) := by decide +kernel
theorem dL_head_4 : decode cL_head 4 = .ok (.invokevirtual 48, 3) := by decide +kernel
theorem dL_head_7 : decode cL_head 7 = .ok (.i2l, 1) := by decide +kernel
theorem dL_head_8 : decode cL_head 8 = .ok (.lastore, 1) := by decide +kernel
theorem dL_head_9 : decode cL_head 9 = .ok (.goto 6, 3) := by decide +kernel
theorem dL_head_12 : decode cL_head 12 = .ok (.astore_n 3, 1) := by decide +kernel
theorem dL_head_13 : decode cL_head 13 = .ok (.iconst 1, 1) := by decide +kernel
theorem dL_head_14 : decode cL_head 14 = .ok (.ireturn, 1) := by decide +kernel
theorem dL_head_15 : decode cL_head 15 = .ok (.iconst 0, 1) := by decide +kernel
theorem dL_head_16 : decode cL_head 16 = .ok (.ireturn, 1) := by decide +kernel
theorem dE_head_0 : decode cE_head 0 = .ok (.iconst 0, 1) := by decide +kernel
theorem dE_head_1 : decode cE_head 1 = .ok (.istore_n 2, 1) := by decide +kernel
theorem dE_head_2 : decode cE_head 2 = .ok (.aload_n 0, 1) := by decide +kernel
theorem dE_head_3 : decode cE_head 3 = .ok (.getfield 11, 3) := by decide +kernel
theorem dE_head_6 : decode cE_head 6 = .ok (.astore_n 3, 1) := by decide +kernel
theorem dE_head_7 : decode cE_head 7 = .ok (.aload_n 3, 1) := by decide +kernel
theorem dE_head_8 : decode cE_head 8 = .ok (.arraylength, 1) := by decide +kernel
theorem dE_head_9 : decode cE_head 9 = .ok (.istore 4, 2) := by decide +kernel
theorem dE_head_11 : decode cE_head 11 = .ok (.iconst 0, 1) := by decide +kernel
theorem dE_head_12 : decode cE_head 12 = .ok (.istore 5, 2) := by decide +kernel
theorem dE_head_14 : decode cE_head 14 = .ok (.iload 5, 2) := by decide +kernel
theorem dE_head_16 : decode cE_head 16 = .ok (.iload 4, 2) := by decide +kernel
theorem dE_head_18 : decode cE_head 18 = .ok (.if_icmp .ge 42, 3) := by decide +kernel
theorem dE_head_21 : decode cE_head 21 = .ok (.aload_n 3, 1) := by decide +kernel
theorem dE_head_22 : decode cE_head 22 = .ok (.iload 5, 2) := by decide +kernel
theorem dE_head_24 : decode cE_head 24 = .ok (.aaload, 1) := by decide +kernel
theorem dE_head_25 : decode cE_head 25 = .ok (.astore 6, 2) := by decide +kernel
theorem dE_head_27 : decode cE_head 27 = .ok (.aload 6, 2) := by decide +kernel
theorem dE_head_29 : decode cE_head 29 = .ok (.ifnull 25, 3) := by decide +kernel
theorem dE_head_32 : decode cE_head 32 = .ok (.aload 6, 2) := by decide +kernel
theorem dE_head_34 : decode cE_head 34 = .ok (.getfield 57, 3) := by decide +kernel
theorem dE_head_37 : decode cE_head 37 = .ok (.ifCond .eq 17, 3) := by decide +kernel
theorem dE_head_40 : decode cE_head 40 = .ok (.iload_n 2, 1) := by decide +kernel
theorem dE_head_41 : decode cE_head 41 = .ok (.iload_n 1, 1) := by decide +kernel
theorem dE_head_42 : decode cE_head 42 = .ok (.if_icmp .ne 9, 3) := by decide +kernel
theorem dE_head_45 : decode cE_head 45 = .ok (.aload 6, 2) := by decide +kernel
theorem dE_head_47 : decode cE_head 47 = .ok (.getfield 61, 3) := by decide +kernel
theorem dE_head_50 : decode cE_head 50 = .ok (.ireturn, 1) := by decide +kernel
theorem dE_head_51 : decode cE_head 51 = .ok (.iinc 2 1, 3) := by decide +kernel
theorem dE_head_54 : decode cE_head 54 = .ok (.iinc 5 1, 3) := by decide +kernel
theorem dE_head_57 : decode cE_head 57 = .ok (.goto (-43), 3) := by decide +kernel
theorem dE_head_60 : decode cE_head 60 = .ok (.new 121, 3) := by decide +kernel
theorem dE_head_63 : decode cE_head 63 = .ok (.dup, 1) := by decide +kernel
theorem dE_head_64 : decode cE_head 64 = .ok (.invokespecial 123, 3) := by decide +kernel
theorem dE_head_67 : decode cE_head 67 = .ok (.athrow, 1) := by decide +kernel
theorem dM_init_0 : decode cM_init 0 = .ok (.aload_n 0, 1) := by decide +kernel
theorem dM_init_1 : decode cM_init 1 = .ok (.invokespecial 1, 3) := by decide +kernel
theorem dM_init_4 : decode cM_init 4 = .ok (.aload_n 0, 1) := by decide +kernel
theorem dM_init_5 : decode cM_init 5 = .ok (.bipush 16, 2) := by decide +kernel
theorem dM_init_7 : decode cM_init 7 = .ok (.newarray .int, 2) := by decide +kernel
theorem dM_init_9 : decode cM_init 9 = .ok (.putfield 9, 3) := by decide +kernel
theorem dM_init_12 : decode cM_init 12 = .ok (.aload_n 0, 1) := by decide +kernel
theorem dM_init_13 : decode cM_init 13 = .ok (.bipush 16, 2) := by decide +kernel
theorem dM_init_15 : decode cM_init 15 = .ok (.newarray .int, 2) := by decide +kernel
theorem dM_init_17 : decode cM_init 17 = .ok (.putfield 13, 3) := by decide +kernel
theorem dM_init_20 : decode cM_init 20 = .ok (.aload_n 0, 1) := by decide +kernel
theorem dM_init_21 : decode cM_init 21 = .ok (.bipush 16, 2) := by decide +kernel
theorem dM_init_23 : decode cM_init 23 = .ok (.bipush 8, 2) := by decide +kernel
theorem dM_init_25 : decode cM_init 25 = .ok (.multianewarray 16 2, 4) := by decide +kernel
theorem dM_init_29 : decode cM_init 29 = .ok (.putfield 18, 3) := by decide +kernel
theorem dM_init_32 : decode cM_init 32 = .ok (.aload_n 0, 1) := by decide +kernel
theorem dM_init_33 : decode cM_init 33 = .ok (.sipush 8192, 3) := by decide +kernel
theorem dM_init_36 : decode cM_init 36 = .ok (.newarray .short, 2) := by decide +kernel
theorem dM_init_38 : decode cM_init 38 = .ok (.putfield 21, 3) := by decide +kernel
theorem dM_init_41 : decode cM_init 41 = .ok (.aload_n 0, 1) := by decide +kernel
theorem dM_init_42 : decode cM_init 42 = .ok (.sipush 8192, 3) := by decide +kernel
theorem dM_init_45 : decode cM_init 45 = .ok (.newarray .short, 2) := by decide +kernel
theorem dM_init_47 : decode cM_init 47 = .ok (.putfield 25, 3) := by decide +kernel
theorem dM_init_50 : decode cM_init 50 = .ok (.aload_n 0, 1) := by decide +kernel
theorem dM_init_51 : decode cM_init 51 = .ok (.sipush 8192, 3) := by decide +kernel
theorem dM_init_54 : decode cM_init 54 = .ok (.newarray .short, 2) := by decide +kernel
theorem dM_init_56 : decode cM_init 56 = .ok (.putfield 28, 3) := by decide +kernel
theorem dM_init_59 : decode cM_init 59 = .ok (.aload_n 0, 1) := by decide +kernel
theorem dM_init_60 : decode cM_init 60 = .ok (.ldc 31, 2) := by decide +kernel
theorem dM_init_62 : decode cM_init 62 = .ok (.newarray .short, 2) := by decide +kernel
theorem dM_init_64 : decode cM_init 64 = .ok (.putfield 32, 3) := by decide +kernel
theorem dM_init_67 : decode cM_init 67 = .ok (.aload_n 0, 1) := by decide +kernel
theorem dM_init_68 : decode cM_init 68 = .ok (.ldc 31, 2) := by decide +kernel
theorem dM_init_70 : decode cM_init 70 = .ok (.newarray .short, 2) := by decide +kernel
theorem dM_init_72 : decode cM_init 72 = .ok (.putfield 35, 3) := by decide +kernel
theorem dM_init_75 : decode cM_init 75 = .ok (.aload_n 0, 1) := by decide +kernel
theorem dM_init_76 : decode cM_init 76 = .ok (.bipush 16, 2) := by decide +kernel
theorem dM_init_78 : decode cM_init 78 = .ok (.newarray .int, 2) := by decide +kernel
theorem dM_init_80 : decode cM_init 80 = .ok (.putfield 38, 3) := by decide +kernel
theorem dM_init_83 : decode cM_init 83 = .ok (.aload_n 0, 1) := by decide +kernel
theorem dM_init_84 : decode cM_init 84 = .ok (.bipush 16, 2) := by decide +kernel
theorem dM_init_86 : decode cM_init 86 = .ok (.newarray .int, 2) := by decide +kernel
theorem dM_init_88 : decode cM_init 88 = .ok (.putfield 41, 3) := by decide +kernel
theorem dM_init_91 : decode cM_init 91 = .ok (.return_, 1) := by decide +kernel
theorem dM_thrown_0 : decode cM_thrown 0 = .ok (.aload_n 0, 1) := by decide +kernel
theorem dM_thrown_1 : decode cM_thrown 1 = .ok (.getfield 113, 3) := by decide +kernel
theorem dM_thrown_4 : decode cM_thrown 4 = .ok (.ireturn, 1) := by decide +kernel
theorem dM_parent_0 : decode cM_parent 0 = .ok (.aload_n 0, 1) := by decide +kernel
theorem dM_parent_1 : decode cM_parent 1 = .ok (.iconst 0, 1) := by decide +kernel
theorem dM_parent_2 : decode cM_parent 2 = .ok (.putfield 113, 3) := by decide +kernel
theorem dM_parent_5 : decode cM_parent 5 = .ok (.aload_n 0, 1) := by decide +kernel
theorem dM_parent_6 : decode cM_parent 6 = .ok (.iload_n 1, 1) := by decide +kernel
theorem dM_parent_7 : decode cM_parent 7 = .ok (.iload_n 2, 1) := by decide +kernel
theorem dM_parent_8 : decode cM_parent 8 = .ok (.invokevirtual 116, 3) := by decide +kernel
theorem dM_parent_11 : decode cM_parent 11 = .ok (.ireturn, 1) := by decide +kernel
theorem dM_parent_12 : decode cM_parent 12 = .ok (.astore_n 3, 1) := by decide +kernel
theorem dM_parent_13 : decode cM_parent 13 = .ok (.aload_n 0, 1) := by decide +kernel
theorem dM_parent_14 : decode cM_parent 14 = .ok (.iconst 1, 1) := by decide +kernel
theorem dM_parent_15 : decode cM_parent 15 = .ok (.putfield 113, 3) := by decide +kernel
theorem dM_parent_18 : decode cM_parent 18 = .ok (.goto 18, 3) := by decide +kernel
theorem dM_parent_21 : decode cM_parent 21 = .ok (.astore_n 3, 1) := by decide +kernel
theorem dM_parent_22 : decode cM_parent 22 = .ok (.aload_n 0, 1) := by decide +kernel
theorem dM_parent_23 : decode cM_parent 23 = .ok (.iconst 2, 1) := by decide +kernel
theorem dM_parent_24 : decode cM_parent 24 = .ok (.putfield 113, 3) := by decide +kernel
theorem dM_parent_27 : decode cM_parent 27 = .ok (.goto 9, 3) := by decide +kernel
theorem dM_parent_30 : decode cM_parent 30 = .ok (.astore_n 3, 1) := by decide +kernel
theorem dM_parent_31 : decode cM_parent 31 = .ok (.aload_n 0, 1) := by decide +kernel
theorem dM_parent_32 : decode cM_parent 32 = .ok (.iconst 3, 1) := by decide +kernel
theorem dM_parent_33 : decode cM_parent 33 = .ok (.putfield 113, 3) := by decide +kernel
theorem dM_parent_36 : decode cM_parent 36 = .ok (.iconst 0, 1) := by decide +kernel
theorem dM_parent_37 : decode cM_parent 37 = .ok (.ireturn, 1) := by decide +kernel
theorem dM_parent0_0 : decode cM_parent0 0 = .ok (.aload_n 0, 1) := by decide +kernel
theorem dM_parent0_1 : decode cM_parent0 1 = .ok (.iload_n 1, 1) := by decide +kernel
theorem dM_parent0_2 : decode cM_parent0 2 = .ok (.iload_n 2, 1) := by decide +kernel
theorem dM_parent0_3 : decode cM_parent0 3 = .ok (.invokevirtual 58, 3) := by decide +kernel
theorem dM_parent0_6 : decode cM_parent0 6 = .ok (.istore_n 3, 1) := by decide +kernel
theorem dM_parent0_7 : decode cM_parent0 7 = .ok (.iload_n 3, 1) := by decide +kernel
theorem dM_parent0_8 : decode cM_parent0 8 = .ok (.ifCond .lt 7, 3) := by decide +kernel
theorem dM_parent0_11 : decode cM_parent0 11 = .ok (.iconst 1, 1) := by decide +kernel
theorem dM_parent0_12 : decode cM_parent0 12 = .ok (.goto 4, 3) := by decide +kernel
theorem dM_parent0_15 : decode cM_parent0 15 = .ok (.iconst 0, 1) := by decide +kernel
theorem dM_parent0_16 : decode cM_parent0 16 = .ok (.invokestatic 62, 3) := by decide +kernel
theorem dM_parent0_19 : decode cM_parent0 19 = .ok (.iconst 0, 1) := by decide +kernel
theorem dM_parent0_20 : decode cM_parent0 20 = .ok (.istore 4, 2) := by decide +kernel
theorem dM_parent0_22 : decode cM_parent0 22 = .ok (.iload 4, 2) := by decide +kernel
theorem dM_parent0_24 : decode cM_parent0 24 = .ok (.aload_n 0, 1) := by decide +kernel
theorem dM_parent0_25 : decode cM_parent0 25 = .ok (.getfield 66, 3) := by decide +kernel
theorem dM_parent0_28 : decode cM_parent0 28 = .ok (.if_icmp .ge 28, 3) := by decide +kernel
theorem dM_parent0_31 : decode cM_parent0 31 = .ok (.aload_n 0, 1) := by decide +kernel
theorem dM_parent0_32 : decode cM_parent0 32 = .ok (.getfield 38, 3) := by decide +kernel
theorem dM_parent0_35 : decode cM_parent0 35 = .ok (.iload 4, 2) := by decide +kernel
theorem dM_parent0_37 : decode cM_parent0 37 = .ok (.iaload, 1) := by decide +kernel
theorem dM_parent0_38 : decode cM_parent0 38 = .ok (.iload_n 3, 1) := by decide +kernel
theorem dM_parent0_39 : decode cM_parent0 39 = .ok (.if_icmp .ne 11, 3) := by decide +kernel
theorem dM_parent0_42 : decode cM_parent0 42 = .ok (.new 69, 3) := by decide +kernel
theorem dM_parent0_45 : decode cM_parent0 45 = .ok (.dup, 1) := by decide +kernel
theorem dM_parent0_46 : decode cM_parent0 46 = .ok (.invokespecial 71, 3) := by decide +kernel
theorem dM_parent0_49 : decode cM_parent0 49 = .ok (.athrow, 1) := by decide +kernel
theorem dM_parent0_50 : decode cM_parent0 50 = .ok (.iinc 4 1, 3) := by decide +kernel
theorem dM_parent0_53 : decode cM_parent0 53 = .ok (.goto (-31), 3) := by decide +kernel
theorem dM_parent0_56 : decode cM_parent0 56 = .ok (.aload_n 0, 1) := by decide +kernel
theorem dM_parent0_57 : decode cM_parent0 57 = .ok (.getfield 66, 3) := by decide +kernel
theorem dM_parent0_60 : decode cM_parent0 60 = .ok (.bipush 16, 2) := by decide +kernel
theorem dM_parent0_62 : decode cM_parent0 62 = .ok (.if_icmp .ne 11, 3) := by decide +kernel
theorem dM_parent0_65 : decode cM_parent0 65 = .ok (.new 72, 3) := by decide +kernel
theorem dM_parent0_68 : decode cM_parent0 68 = .ok (.dup, 1) := by decide +kernel
theorem dM_parent0_69 : decode cM_parent0 69 = .ok (.invokespecial 74, 3) := by decide +kernel
theorem dM_parent0_72 : decode cM_parent0 72 = .ok (.athrow, 1) := by decide +kernel
theorem dM_parent0_73 : decode cM_parent0 73 = .ok (.aload_n 0, 1) := by decide +kernel
theorem dM_parent0_74 : decode cM_parent0 74 = .ok (.getfield 38, 3) := by decide +kernel
theorem dM_parent0_77 : decode cM_parent0 77 = .ok (.aload_n 0, 1) := by decide +kernel
theorem dM_parent0_78 : decode cM_parent0 78 = .ok (.getfield 66, 3) := by decide +kernel
theorem dM_parent0_81 : decode cM_parent0 81 = .ok (.iload_n 3, 1) := by decide +kernel
theorem dM_parent0_82 : decode cM_parent0 82 = .ok (.iastore, 1) := by decide +kernel
theorem dM_parent0_83 : decode cM_parent0 83 = .ok (.aload_n 0, 1) := by decide +kernel
theorem dM_parent0_84 : decode cM_parent0 84 = .ok (.dup, 1) := by decide +kernel
theorem dM_parent0_85 : decode cM_parent0 85 = .ok (.getfield 66, 3) := by decide +kernel
theorem dM_parent0_88 : decode cM_parent0 88 = .ok (.iconst 1, 1) := by decide +kernel
theorem dM_parent0_89 : decode cM_parent0 89 = .ok (.iadd, 1) := by decide +kernel
theorem dM_parent0_90 : decode cM_parent0 90 = .ok (.putfield 66, 3) := by decide +kernel
theorem dM_parent0_93 : decode cM_parent0 93 = .ok (.aload_n 0, 1) := by decide +kernel
theorem dM_parent0_94 : decode cM_parent0 94 = .ok (.getfield 66, 3) := by decide +kernel
theorem dM_parent0_97 : decode cM_parent0 97 = .ok (.ireturn, 1) := by decide +kernel
theorem dM_find_0 : decode cM_find 0 = .ok (.aload_n 0, 1) := by decide +kernel
theorem dM_find_1 : decode cM_find 1 = .ok (.iload_n 1, 1) := by decide +kernel
theorem dM_find_2 : decode cM_find 2 = .ok (.invokevirtual 51, 3) := by decide +kernel
theorem dM_find_5 : decode cM_find 5 = .ok (.istore_n 3, 1) := by decide +kernel
theorem dM_find_6 : decode cM_find 6 = .ok (.iload_n 3, 1) := by decide +kernel
theorem dM_find_7 : decode cM_find 7 = .ok (.ifCond .lt 17, 3) := by decide +kernel
theorem dM_find_10 : decode cM_find 10 = .ok (.iload_n 2, 1) := by decide +kernel
theorem dM_find_11 : decode cM_find 11 = .ok (.ifCond .lt 13, 3) := by decide +kernel
theorem dM_find_14 : decode cM_find 14 = .ok (.iload_n 2, 1) := by decide +kernel
theorem dM_find_15 : decode cM_find 15 = .ok (.aload_n 0, 1) := by decide +kernel
theorem dM_find_16 : decode cM_find 16 = .ok (.getfield 13, 3) := by decide +kernel
theorem dM_find_19 : decode cM_find 19 = .ok (.iload_n 3, 1) := by decide +kernel
theorem dM_find_20 : decode cM_find 20 = .ok (.iaload, 1) := by decide +kernel
theorem dM_find_21 : decode cM_find 21 = .ok (.if_icmp .lt 5, 3) := by decide +kernel
theorem dM_find_24 : decode cM_find 24 = .ok (.iconst (-1), 1) := by decide +kernel
theorem dM_find_25 : decode cM_find 25 = .ok (.ireturn, 1) := by decide +kernel
theorem dM_find_26 : decode cM_find 26 = .ok (.aload_n 0, 1) := by decide +kernel
theorem dM_find_27 : decode cM_find 27 = .ok (.getfield 18, 3) := by decide +kernel
theorem dM_find_30 : decode cM_find 30 = .ok (.iload_n 3, 1) := by decide +kernel
theorem dM_find_31 : decode cM_find 31 = .ok (.aaload, 1) := by decide +kernel
theorem dM_find_32 : decode cM_find 32 = .ok (.iload_n 2, 1) := by decide +kernel
theorem dM_find_33 : decode cM_find 33 = .ok (.iaload, 1) := by decide +kernel
theorem dM_find_34 : decode cM_find 34 = .ok (.ireturn, 1) := by decide +kernel
theorem dM_slotOf_0 : decode cM_slotOf 0 = .ok (.iconst 0, 1) := by decide +kernel
theorem dM_slotOf_1 : decode cM_slotOf 1 = .ok (.istore_n 2, 1) := by decide +kernel
theorem dM_slotOf_2 : decode cM_slotOf 2 = .ok (.iload_n 2, 1) := by decide +kernel
theorem dM_slotOf_3 : decode cM_slotOf 3 = .ok (.aload_n 0, 1) := by decide +kernel
theorem dM_slotOf_4 : decode cM_slotOf 4 = .ok (.getfield 47, 3) := by decide +kernel
theorem dM_slotOf_7 : decode cM_slotOf 7 = .ok (.if_icmp .ge 21, 3) := by decide +kernel
theorem dM_slotOf_10 : decode cM_slotOf 10 = .ok (.aload_n 0, 1) := by decide +kernel
theorem dM_slotOf_11 : decode cM_slotOf 11 = .ok (.getfield 9, 3) := by decide +kernel
theorem dM_slotOf_14 : decode cM_slotOf 14 = .ok (.iload_n 2, 1) := by decide +kernel
theorem dM_slotOf_15 : decode cM_slotOf 15 = .ok (.iaload, 1) := by decide +kernel
theorem dM_slotOf_16 : decode cM_slotOf 16 = .ok (.iload_n 1, 1) := by decide +kernel
theorem dM_slotOf_17 : decode cM_slotOf 17 = .ok (.if_icmp .ne 5, 3) := by decide +kernel
theorem dM_slotOf_20 : decode cM_slotOf 20 = .ok (.iload_n 2, 1) := by decide +kernel
theorem dM_slotOf_21 : decode cM_slotOf 21 = .ok (.ireturn, 1) := by decide +kernel
theorem dM_slotOf_22 : decode cM_slotOf 22 = .ok (.iinc 2 1, 3) := by decide +kernel
theorem dM_slotOf_25 : decode cM_slotOf 25 = .ok (.goto (-23), 3) := by decide +kernel
theorem dM_slotOf_28 : decode cM_slotOf 28 = .ok (.iconst (-1), 1) := by decide +kernel
theorem dM_slotOf_29 : decode cM_slotOf 29 = .ok (.ireturn, 1) := by decide +kernel
theorem dM_there_0 : decode cM_there 0 = .ok (.iload_n 0, 1) := by decide +kernel
theorem dM_there_1 : decode cM_there 1 = .ok (.ifCond .ne 11, 3) := by decide +kernel
theorem dM_there_4 : decode cM_there 4 = .ok (.new 44, 3) := by decide +kernel
theorem dM_there_7 : decode cM_there 7 = .ok (.dup, 1) := by decide +kernel
theorem dM_there_8 : decode cM_there 8 = .ok (.invokespecial 46, 3) := by decide +kernel
theorem dM_there_11 : decode cM_there 11 = .ok (.athrow, 1) := by decide +kernel
theorem dM_there_12 : decode cM_there 12 = .ok (.return_, 1) := by decide +kernel
theorem dM_heads_0 : decode cM_heads 0 = .ok (.aload_n 0, 1) := by decide +kernel
theorem dM_heads_1 : decode cM_heads 1 = .ok (.iconst 0, 1) := by decide +kernel
theorem dM_heads_2 : decode cM_heads 2 = .ok (.putfield 113, 3) := by decide +kernel
theorem dM_heads_5 : decode cM_heads 5 = .ok (.aload_n 0, 1) := by decide +kernel
theorem dM_heads_6 : decode cM_heads 6 = .ok (.invokevirtual 119, 3) := by decide +kernel
theorem dM_heads_9 : decode cM_heads 9 = .ok (.ireturn, 1) := by decide +kernel
theorem dM_heads0_0 : decode cM_heads0 0 = .ok (.aload_n 0, 1) := by decide +kernel
theorem dM_heads0_1 : decode cM_heads0 1 = .ok (.aload_n 0, 1) := by decide +kernel
theorem dM_heads0_2 : decode cM_heads0 2 = .ok (.aload_n 0, 1) := by decide +kernel
theorem dM_heads0_3 : decode cM_heads0 3 = .ok (.getfield 38, 3) := by decide +kernel
theorem dM_heads0_6 : decode cM_heads0 6 = .ok (.invokevirtual 83, 3) := by decide +kernel
theorem dM_heads0_9 : decode cM_heads0 9 = .ok (.putfield 66, 3) := by decide +kernel
theorem dM_heads0_12 : decode cM_heads0 12 = .ok (.aload_n 0, 1) := by decide +kernel
theorem dM_heads0_13 : decode cM_heads0 13 = .ok (.getfield 66, 3) := by decide +kernel
theorem dM_heads0_16 : decode cM_heads0 16 = .ok (.ireturn, 1) := by decide +kernel
theorem dM_headsTo_0 : decode cM_headsTo 0 = .ok (.iconst 0, 1) := by decide +kernel
theorem dM_headsTo_1 : decode cM_headsTo 1 = .ok (.istore_n 2, 1) := by decide +kernel
theorem dM_headsTo_2 : decode cM_headsTo 2 = .ok (.iconst 0, 1) := by decide +kernel
theorem dM_headsTo_3 : decode cM_headsTo 3 = .ok (.istore_n 3, 1) := by decide +kernel
theorem dM_headsTo_4 : decode cM_headsTo 4 = .ok (.iload_n 3, 1) := by decide +kernel
theorem dM_headsTo_5 : decode cM_headsTo 5 = .ok (.sipush 256, 3) := by decide +kernel
theorem dM_headsTo_8 : decode cM_headsTo 8 = .ok (.if_icmp .ge 60, 3) := by decide +kernel
theorem dM_headsTo_11 : decode cM_headsTo 11 = .ok (.aload_n 0, 1) := by decide +kernel
theorem dM_headsTo_12 : decode cM_headsTo 12 = .ok (.iload_n 3, 1) := by decide +kernel
theorem dM_headsTo_13 : decode cM_headsTo 13 = .ok (.invokevirtual 51, 3) := by decide +kernel
theorem dM_headsTo_16 : decode cM_headsTo 16 = .ok (.istore 4, 2) := by decide +kernel
theorem dM_headsTo_18 : decode cM_headsTo 18 = .ok (.iload 4, 2) := by decide +kernel
theorem dM_headsTo_20 : decode cM_headsTo 20 = .ok (.ifCond .ge 6, 3) := by decide +kernel
theorem dM_headsTo_23 : decode cM_headsTo 23 = .ok (.goto 39, 3) := by decide +kernel
theorem dM_headsTo_26 : decode cM_headsTo 26 = .ok (.aload_n 0, 1) := by decide +kernel
theorem dM_headsTo_27 : decode cM_headsTo 27 = .ok (.iload_n 3, 1) := by decide +kernel
theorem dM_headsTo_28 : decode cM_headsTo 28 = .ok (.aload_n 0, 1) := by decide +kernel
theorem dM_headsTo_29 : decode cM_headsTo 29 = .ok (.getfield 13, 3) := by decide +kernel
theorem dM_headsTo_32 : decode cM_headsTo 32 = .ok (.iload 4, 2) := by decide +kernel
theorem dM_headsTo_34 : decode cM_headsTo 34 = .ok (.iaload, 1) := by decide +kernel
theorem dM_headsTo_35 : decode cM_headsTo 35 = .ok (.iconst 1, 1) := by decide +kernel
theorem dM_headsTo_36 : decode cM_headsTo 36 = .ok (.isub, 1) := by decide +kernel
theorem dM_headsTo_37 : decode cM_headsTo 37 = .ok (.invokevirtual 58, 3) := by decide +kernel
theorem dM_headsTo_40 : decode cM_headsTo 40 = .ok (.istore 5, 2) := by decide +kernel
theorem dM_headsTo_42 : decode cM_headsTo 42 = .ok (.aload_n 0, 1) := by decide +kernel
theorem dM_headsTo_43 : decode cM_headsTo 43 = .ok (.iload 5, 2) := by decide +kernel
theorem dM_headsTo_45 : decode cM_headsTo 45 = .ok (.invokevirtual 79, 3) := by decide +kernel
theorem dM_headsTo_48 : decode cM_headsTo 48 = .ok (.ifCond .ne 6, 3) := by decide +kernel
theorem dM_headsTo_51 : decode cM_headsTo 51 = .ok (.goto 11, 3) := by decide +kernel
theorem dM_headsTo_54 : decode cM_headsTo 54 = .ok (.aload_n 1, 1) := by decide +kernel
theorem dM_headsTo_55 : decode cM_headsTo 55 = .ok (.iload_n 2, 1) := by decide +kernel
theorem dM_headsTo_56 : decode cM_headsTo 56 = .ok (.iload 5, 2) := by decide +kernel
theorem dM_headsTo_58 : decode cM_headsTo 58 = .ok (.iastore, 1) := by decide +kernel
theorem dM_headsTo_59 : decode cM_headsTo 59 = .ok (.iinc 2 1, 3) := by decide +kernel
theorem dM_headsTo_62 : decode cM_headsTo 62 = .ok (.iinc 3 1, 3) := by decide +kernel
theorem dM_headsTo_65 : decode cM_headsTo 65 = .ok (.goto (-61), 3) := by decide +kernel
theorem dM_headsTo_68 : decode cM_headsTo 68 = .ok (.iload_n 2, 1) := by decide +kernel
theorem dM_headsTo_69 : decode cM_headsTo 69 = .ok (.ireturn, 1) := by decide +kernel
theorem dM_isHead_0 : decode cM_isHead 0 = .ok (.iconst 0, 1) := by decide +kernel
theorem dM_isHead_1 : decode cM_isHead 1 = .ok (.istore_n 2, 1) := by decide +kernel
theorem dM_isHead_2 : decode cM_isHead 2 = .ok (.iload_n 2, 1) := by decide +kernel
theorem dM_isHead_3 : decode cM_isHead 3 = .ok (.aload_n 0, 1) := by decide +kernel
theorem dM_isHead_4 : decode cM_isHead 4 = .ok (.getfield 47, 3) := by decide +kernel
theorem dM_isHead_7 : decode cM_isHead 7 = .ok (.if_icmp .ge 41, 3) := by decide +kernel
theorem dM_isHead_10 : decode cM_isHead 10 = .ok (.aload_n 0, 1) := by decide +kernel
theorem dM_isHead_11 : decode cM_isHead 11 = .ok (.getfield 18, 3) := by decide +kernel
theorem dM_isHead_14 : decode cM_isHead 14 = .ok (.iload_n 2, 1) := by decide +kernel
theorem dM_isHead_15 : decode cM_isHead 15 = .ok (.aaload, 1) := by decide +kernel
theorem dM_isHead_16 : decode cM_isHead 16 = .ok (.aload_n 0, 1) := by decide +kernel
theorem dM_isHead_17 : decode cM_isHead 17 = .ok (.getfield 13, 3) := by decide +kernel
theorem dM_isHead_20 : decode cM_isHead 20 = .ok (.iload_n 2, 1) := by decide +kernel
theorem dM_isHead_21 : decode cM_isHead 21 = .ok (.iaload, 1) := by decide +kernel
theorem dM_isHead_22 : decode cM_isHead 22 = .ok (.iconst 1, 1) := by decide +kernel
theorem dM_isHead_23 : decode cM_isHead 23 = .ok (.isub, 1) := by decide +kernel
theorem dM_isHead_24 : decode cM_isHead 24 = .ok (.iaload, 1) := by decide +kernel
theorem dM_isHead_25 : decode cM_isHead 25 = .ok (.istore_n 3, 1) := by decide +kernel
theorem dM_isHead_26 : decode cM_isHead 26 = .ok (.iload_n 3, 1) := by decide +kernel
theorem dM_isHead_27 : decode cM_isHead 27 = .ok (.iload_n 1, 1) := by decide +kernel
theorem dM_isHead_28 : decode cM_isHead 28 = .ok (.if_icmp .eq 14, 3) := by decide +kernel
theorem dM_isHead_31 : decode cM_isHead 31 = .ok (.aload_n 0, 1) := by decide +kernel
theorem dM_isHead_32 : decode cM_isHead 32 = .ok (.iload_n 1, 1) := by decide +kernel
theorem dM_isHead_33 : decode cM_isHead 33 = .ok (.iload_n 3, 1) := by decide +kernel
theorem dM_isHead_34 : decode cM_isHead 34 = .ok (.invokevirtual 75, 3) := by decide +kernel
theorem dM_isHead_37 : decode cM_isHead 37 = .ok (.ifCond .eq 5, 3) := by decide +kernel
theorem dM_isHead_40 : decode cM_isHead 40 = .ok (.iconst 0, 1) := by decide +kernel
theorem dM_isHead_41 : decode cM_isHead 41 = .ok (.ireturn, 1) := by decide +kernel
theorem dM_isHead_42 : decode cM_isHead 42 = .ok (.iinc 2 1, 3) := by decide +kernel
theorem dM_isHead_45 : decode cM_isHead 45 = .ok (.goto (-43), 3) := by decide +kernel
theorem dM_isHead_48 : decode cM_isHead 48 = .ok (.iconst 1, 1) := by decide +kernel
theorem dM_isHead_49 : decode cM_isHead 49 = .ok (.ireturn, 1) := by decide +kernel
theorem dM_isIn_0 : decode cM_isIn 0 = .ok (.aload_n 0, 1) := by decide +kernel
theorem dM_isIn_1 : decode cM_isIn 1 = .ok (.getfield 25, 3) := by decide +kernel
theorem dM_isIn_4 : decode cM_isIn 4 = .ok (.iload_n 1, 1) := by decide +kernel
theorem dM_isIn_5 : decode cM_isIn 5 = .ok (.saload, 1) := by decide +kernel
theorem dM_isIn_6 : decode cM_isIn 6 = .ok (.aload_n 0, 1) := by decide +kernel
theorem dM_isIn_7 : decode cM_isIn 7 = .ok (.getfield 35, 3) := by decide +kernel
theorem dM_isIn_10 : decode cM_isIn 10 = .ok (.bipush 16, 2) := by decide +kernel
theorem dM_isIn_12 : decode cM_isIn 12 = .ok (.iload_n 2, 1) := by decide +kernel
theorem dM_isIn_13 : decode cM_isIn 13 = .ok (.imul, 1) := by decide +kernel
theorem dM_isIn_14 : decode cM_isIn 14 = .ok (.aload_n 0, 1) := by decide +kernel
theorem dM_isIn_15 : decode cM_isIn 15 = .ok (.getfield 21, 3) := by decide +kernel
theorem dM_isIn_18 : decode cM_isIn 18 = .ok (.iload_n 1, 1) := by decide +kernel
theorem dM_isIn_19 : decode cM_isIn 19 = .ok (.saload, 1) := by decide +kernel
theorem dM_isIn_20 : decode cM_isIn 20 = .ok (.iadd, 1) := by decide +kernel
theorem dM_isIn_21 : decode cM_isIn 21 = .ok (.saload, 1) := by decide +kernel
theorem dM_isIn_22 : decode cM_isIn 22 = .ok (.if_icmp .ge 7, 3) := by decide +kernel
theorem dM_isIn_25 : decode cM_isIn 25 = .ok (.iconst 1, 1) := by decide +kernel
theorem dM_isIn_26 : decode cM_isIn 26 = .ok (.goto 4, 3) := by decide +kernel
theorem dM_isIn_29 : decode cM_isIn 29 = .ok (.iconst 0, 1) := by decide +kernel
theorem dM_isIn_30 : decode cM_isIn 30 = .ok (.ireturn, 1) := by decide +kernel
