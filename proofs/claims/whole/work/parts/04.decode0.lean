theorem dE_init_0 : decode cE_init 0 = .ok (.aload_n 0, 1) := by decide +kernel
theorem dE_init_1 : decode cE_init 1 = .ok (.invokespecial 1, 3) := by decide +kernel
theorem dE_init_4 : decode cE_init 4 = .ok (.aload_n 0, 1) := by decide +kernel
theorem dE_init_5 : decode cE_init 5 = .ok (.sipush 256, 3) := by decide +kernel
theorem dE_init_8 : decode cE_init 8 = .ok (.anewarray 9, 3) := by decide +kernel
theorem dE_init_11 : decode cE_init 11 = .ok (.putfield 11, 3) := by decide +kernel
theorem dE_init_14 : decode cE_init 14 = .ok (.aload_n 0, 1) := by decide +kernel
theorem dE_init_15 : decode cE_init 15 = .ok (.iconst 0, 1) := by decide +kernel
theorem dE_init_16 : decode cE_init 16 = .ok (.putfield 15, 3) := by decide +kernel
theorem dE_init_19 : decode cE_init 19 = .ok (.aload_n 0, 1) := by decide +kernel
theorem dE_init_20 : decode cE_init 20 = .ok (.sipush 8192, 3) := by decide +kernel
theorem dE_init_23 : decode cE_init 23 = .ok (.anewarray 19, 3) := by decide +kernel
theorem dE_init_26 : decode cE_init 26 = .ok (.putfield 21, 3) := by decide +kernel
theorem dE_init_29 : decode cE_init 29 = .ok (.aload_n 0, 1) := by decide +kernel
theorem dE_init_30 : decode cE_init 30 = .ok (.iconst 0, 1) := by decide +kernel
theorem dE_init_31 : decode cE_init 31 = .ok (.putfield 25, 3) := by decide +kernel
theorem dE_init_34 : decode cE_init 34 = .ok (.aload_n 0, 1) := by decide +kernel
theorem dE_init_35 : decode cE_init 35 = .ok (.aconst_null, 1) := by decide +kernel
theorem dE_init_36 : decode cE_init 36 = .ok (.putfield 28, 3) := by decide +kernel
theorem dE_init_39 : decode cE_init 39 = .ok (.aload_n 0, 1) := by decide +kernel
theorem dE_init_40 : decode cE_init 40 = .ok (.bipush 16, 2) := by decide +kernel
theorem dE_init_42 : decode cE_init 42 = .ok (.newarray .int, 2) := by decide +kernel
theorem dE_init_44 : decode cE_init 44 = .ok (.putfield 32, 3) := by decide +kernel
theorem dE_init_47 : decode cE_init 47 = .ok (.aload_n 0, 1) := by decide +kernel
theorem dE_init_48 : decode cE_init 48 = .ok (.iconst 0, 1) := by decide +kernel
theorem dE_init_49 : decode cE_init 49 = .ok (.putfield 36, 3) := by decide +kernel
theorem dE_init_52 : decode cE_init 52 = .ok (.return_, 1) := by decide +kernel
theorem dE_heads_0 : decode cE_heads 0 = .ok (.aload_n 0, 1) := by decide +kernel
theorem dE_heads_1 : decode cE_heads 1 = .ok (.iconst 0, 1) := by decide +kernel
theorem dE_heads_2 : decode cE_heads 2 = .ok (.putfield 36, 3) := by decide +kernel
theorem dE_heads_5 : decode cE_heads 5 = .ok (.aload_n 0, 1) := by decide +kernel
theorem dE_heads_6 : decode cE_heads 6 = .ok (.getfield 11, 3) := by decide +kernel
theorem dE_heads_9 : decode cE_heads 9 = .ok (.astore_n 1, 1) := by decide +kernel
theorem dE_heads_10 : decode cE_heads 10 = .ok (.aload_n 1, 1) := by decide +kernel
theorem dE_heads_11 : decode cE_heads 11 = .ok (.arraylength, 1) := by decide +kernel
theorem dE_heads_12 : decode cE_heads 12 = .ok (.istore_n 2, 1) := by decide +kernel
theorem dE_heads_13 : decode cE_heads 13 = .ok (.iconst 0, 1) := by decide +kernel
theorem dE_heads_14 : decode cE_heads 14 = .ok (.istore_n 3, 1) := by decide +kernel
theorem dE_heads_15 : decode cE_heads 15 = .ok (.iload_n 3, 1) := by decide +kernel
theorem dE_heads_16 : decode cE_heads 16 = .ok (.iload_n 2, 1) := by decide +kernel
theorem dE_heads_17 : decode cE_heads 17 = .ok (.if_icmp .ge 36, 3) := by decide +kernel
theorem dE_heads_20 : decode cE_heads 20 = .ok (.aload_n 1, 1) := by decide +kernel
theorem dE_heads_21 : decode cE_heads 21 = .ok (.iload_n 3, 1) := by decide +kernel
theorem dE_heads_22 : decode cE_heads 22 = .ok (.aaload, 1) := by decide +kernel
theorem dE_heads_23 : decode cE_heads 23 = .ok (.astore 4, 2) := by decide +kernel
theorem dE_heads_25 : decode cE_heads 25 = .ok (.aload 4, 2) := by decide +kernel
theorem dE_heads_27 : decode cE_heads 27 = .ok (.ifnull 20, 3) := by decide +kernel
theorem dE_heads_30 : decode cE_heads 30 = .ok (.aload 4, 2) := by decide +kernel
theorem dE_heads_32 : decode cE_heads 32 = .ok (.getfield 57, 3) := by decide +kernel
theorem dE_heads_35 : decode cE_heads 35 = .ok (.ifCond .eq 12, 3) := by decide +kernel
theorem dE_heads_38 : decode cE_heads 38 = .ok (.aload_n 0, 1) := by decide +kernel
theorem dE_heads_39 : decode cE_heads 39 = .ok (.aload 4, 2) := by decide +kernel
theorem dE_heads_41 : decode cE_heads 41 = .ok (.getfield 61, 3) := by decide +kernel
theorem dE_heads_44 : decode cE_heads 44 = .ok (.invokevirtual 53, 3) := by decide +kernel
theorem dE_heads_47 : decode cE_heads 47 = .ok (.iinc 3 1, 3) := by decide +kernel
theorem dE_heads_50 : decode cE_heads 50 = .ok (.goto (-35), 3) := by decide +kernel
theorem dE_heads_53 : decode cE_heads 53 = .ok (.aload_n 0, 1) := by decide +kernel
theorem dE_heads_54 : decode cE_heads 54 = .ok (.getfield 36, 3) := by decide +kernel
theorem dE_heads_57 : decode cE_heads 57 = .ok (.ireturn, 1) := by decide +kernel
theorem dE_putOnList_0 : decode cE_putOnList 0 = .ok (.aload_n 0, 1) := by decide +kernel
theorem dE_putOnList_1 : decode cE_putOnList 1 = .ok (.getfield 36, 3) := by decide +kernel
theorem dE_putOnList_4 : decode cE_putOnList 4 = .ok (.bipush 16, 2) := by decide +kernel
theorem dE_putOnList_6 : decode cE_putOnList 6 = .ok (.if_icmp .lt 4, 3) := by decide +kernel
theorem dE_putOnList_9 : decode cE_putOnList 9 = .ok (.return_, 1) := by decide +kernel
theorem dE_putOnList_10 : decode cE_putOnList 10 = .ok (.aload_n 0, 1) := by decide +kernel
theorem dE_putOnList_11 : decode cE_putOnList 11 = .ok (.getfield 36, 3) := by decide +kernel
theorem dE_putOnList_14 : decode cE_putOnList 14 = .ok (.istore_n 2, 1) := by decide +kernel
theorem dE_putOnList_15 : decode cE_putOnList 15 = .ok (.iload_n 2, 1) := by decide +kernel
theorem dE_putOnList_16 : decode cE_putOnList 16 = .ok (.ifCond .le 35, 3) := by decide +kernel
theorem dE_putOnList_19 : decode cE_putOnList 19 = .ok (.aload_n 0, 1) := by decide +kernel
theorem dE_putOnList_20 : decode cE_putOnList 20 = .ok (.getfield 32, 3) := by decide +kernel
theorem dE_putOnList_23 : decode cE_putOnList 23 = .ok (.iload_n 2, 1) := by decide +kernel
theorem dE_putOnList_24 : decode cE_putOnList 24 = .ok (.iconst 1, 1) := by decide +kernel
theorem dE_putOnList_25 : decode cE_putOnList 25 = .ok (.isub, 1) := by decide +kernel
theorem dE_putOnList_26 : decode cE_putOnList 26 = .ok (.iaload, 1) := by decide +kernel
theorem dE_putOnList_27 : decode cE_putOnList 27 = .ok (.iload_n 1, 1) := by decide +kernel
theorem dE_putOnList_28 : decode cE_putOnList 28 = .ok (.if_icmp .le 23, 3) := by decide +kernel
theorem dE_putOnList_31 : decode cE_putOnList 31 = .ok (.aload_n 0, 1) := by decide +kernel
theorem dE_putOnList_32 : decode cE_putOnList 32 = .ok (.getfield 32, 3) := by decide +kernel
theorem dE_putOnList_35 : decode cE_putOnList 35 = .ok (.iload_n 2, 1) := by decide +kernel
theorem dE_putOnList_36 : decode cE_putOnList 36 = .ok (.aload_n 0, 1) := by decide +kernel
theorem dE_putOnList_37 : decode cE_putOnList 37 = .ok (.getfield 32, 3) := by decide +kernel
theorem dE_putOnList_40 : decode cE_putOnList 40 = .ok (.iload_n 2, 1) := by decide +kernel
theorem dE_putOnList_41 : decode cE_putOnList 41 = .ok (.iconst 1, 1) := by decide +kernel
theorem dE_putOnList_42 : decode cE_putOnList 42 = .ok (.isub, 1) := by decide +kernel
theorem dE_putOnList_43 : decode cE_putOnList 43 = .ok (.iaload, 1) := by decide +kernel
theorem dE_putOnList_44 : decode cE_putOnList 44 = .ok (.iastore, 1) := by decide +kernel
theorem dE_putOnList_45 : decode cE_putOnList 45 = .ok (.iinc 2 (-1), 3) := by decide +kernel
theorem dE_putOnList_48 : decode cE_putOnList 48 = .ok (.goto (-33), 3) := by decide +kernel
theorem dE_putOnList_51 : decode cE_putOnList 51 = .ok (.aload_n 0, 1) := by decide +kernel
theorem dE_putOnList_52 : decode cE_putOnList 52 = .ok (.getfield 32, 3) := by decide +kernel
theorem dE_putOnList_55 : decode cE_putOnList 55 = .ok (.iload_n 2, 1) := by decide +kernel
theorem dE_putOnList_56 : decode cE_putOnList 56 = .ok (.iload_n 1, 1) := by decide +kernel
theorem dE_putOnList_57 : decode cE_putOnList 57 = .ok (.iastore, 1) := by decide +kernel
theorem dE_putOnList_58 : decode cE_putOnList 58 = .ok (.aload_n 0, 1) := by decide +kernel
theorem dE_putOnList_59 : decode cE_putOnList 59 = .ok (.dup, 1) := by decide +kernel
theorem dE_putOnList_60 : decode cE_putOnList 60 = .ok (.getfield 36, 3) := by decide +kernel
theorem dE_putOnList_63 : decode cE_putOnList 63 = .ok (.iconst 1, 1) := by decide +kernel
theorem dE_putOnList_64 : decode cE_putOnList 64 = .ok (.iadd, 1) := by decide +kernel
theorem dE_putOnList_65 : decode cE_putOnList 65 = .ok (.putfield 36, 3) := by decide +kernel
theorem dE_putOnList_68 : decode cE_putOnList 68 = .ok (.return_, 1) := by decide +kernel
theorem dE_critical_0 : decode cE_critical 0 = .ok (.iconst 0, 1) := by decide +kernel
theorem dE_critical_1 : decode cE_critical 1 = .ok (.istore_n 1, 1) := by decide +kernel
theorem dE_critical_2 : decode cE_critical 2 = .ok (.aload_n 0, 1) := by decide +kernel
theorem dE_critical_3 : decode cE_critical 3 = .ok (.getfield 25, 3) := by decide +kernel
theorem dE_critical_6 : decode cE_critical 6 = .ok (.istore_n 2, 1) := by decide +kernel
theorem dE_critical_7 : decode cE_critical 7 = .ok (.aload_n 0, 1) := by decide +kernel
theorem dE_critical_8 : decode cE_critical 8 = .ok (.getfield 28, 3) := by decide +kernel
theorem dE_critical_11 : decode cE_critical 11 = .ok (.astore_n 3, 1) := by decide +kernel
theorem dE_critical_12 : decode cE_critical 12 = .ok (.aload_n 3, 1) := by decide +kernel
theorem dE_critical_13 : decode cE_critical 13 = .ok (.ifnull 58, 3) := by decide +kernel
theorem dE_critical_16 : decode cE_critical 16 = .ok (.iload_n 2, 1) := by decide +kernel
theorem dE_critical_17 : decode cE_critical 17 = .ok (.aload_n 3, 1) := by decide +kernel
theorem dE_critical_18 : decode cE_critical 18 = .ok (.getfield 142, 3) := by decide +kernel
theorem dE_critical_21 : decode cE_critical 21 = .ok (.invokestatic 145, 3) := by decide +kernel
theorem dE_critical_24 : decode cE_critical 24 = .ok (.istore 4, 2) := by decide +kernel
theorem dE_critical_26 : decode cE_critical 26 = .ok (.aload_n 3, 1) := by decide +kernel
theorem dE_critical_27 : decode cE_critical 27 = .ok (.getfield 151, 3) := by decide +kernel
theorem dE_critical_30 : decode cE_critical 30 = .ok (.ifCond .eq 24, 3) := by decide +kernel
theorem dE_critical_33 : decode cE_critical 33 = .ok (.iload 4, 2) := by decide +kernel
theorem dE_critical_35 : decode cE_critical 35 = .ok (.aload_n 3, 1) := by decide +kernel
theorem dE_critical_36 : decode cE_critical 36 = .ok (.getfield 115, 3) := by decide +kernel
theorem dE_critical_39 : decode cE_critical 39 = .ok (.if_icmp .lt 15, 3) := by decide +kernel
theorem dE_critical_42 : decode cE_critical 42 = .ok (.iload_n 1, 1) := by decide +kernel
theorem dE_critical_43 : decode cE_critical 43 = .ok (.iload 4, 2) := by decide +kernel
theorem dE_critical_45 : decode cE_critical 45 = .ok (.aload_n 3, 1) := by decide +kernel
theorem dE_critical_46 : decode cE_critical 46 = .ok (.getfield 115, 3) := by decide +kernel
theorem dE_critical_49 : decode cE_critical 49 = .ok (.isub, 1) := by decide +kernel
theorem dE_critical_50 : decode cE_critical 50 = .ok (.iconst 1, 1) := by decide +kernel
theorem dE_critical_51 : decode cE_critical 51 = .ok (.iadd, 1) := by decide +kernel
theorem dE_critical_52 : decode cE_critical 52 = .ok (.iadd, 1) := by decide +kernel
theorem dE_critical_53 : decode cE_critical 53 = .ok (.istore_n 1, 1) := by decide +kernel
theorem dE_critical_54 : decode cE_critical 54 = .ok (.iload_n 2, 1) := by decide +kernel
theorem dE_critical_55 : decode cE_critical 55 = .ok (.aload_n 3, 1) := by decide +kernel
theorem dE_critical_56 : decode cE_critical 56 = .ok (.invokevirtual 154, 3) := by decide +kernel
theorem dE_critical_59 : decode cE_critical 59 = .ok (.invokestatic 145, 3) := by decide +kernel
theorem dE_critical_62 : decode cE_critical 62 = .ok (.istore_n 2, 1) := by decide +kernel
theorem dE_critical_63 : decode cE_critical 63 = .ok (.aload_n 3, 1) := by decide +kernel
theorem dE_critical_64 : decode cE_critical 64 = .ok (.getfield 148, 3) := by decide +kernel
theorem dE_critical_67 : decode cE_critical 67 = .ok (.astore_n 3, 1) := by decide +kernel
theorem dE_critical_68 : decode cE_critical 68 = .ok (.goto (-56), 3) := by decide +kernel
theorem dE_critical_71 : decode cE_critical 71 = .ok (.iload_n 1, 1) := by decide +kernel
theorem dE_critical_72 : decode cE_critical 72 = .ok (.ireturn, 1) := by decide +kernel
theorem dS_newestParent_0 : decode cS_newestParent 0 = .ok (.aload_n 0, 1) := by decide +kernel
theorem dS_newestParent_1 : decode cS_newestParent 1 = .ok (.getfield 28, 3) := by decide +kernel
theorem dS_newestParent_4 : decode cS_newestParent 4 = .ok (.arraylength, 1) := by decide +kernel
theorem dS_newestParent_5 : decode cS_newestParent 5 = .ok (.ifCond .ne 7, 3) := by decide +kernel
theorem dS_newestParent_8 : decode cS_newestParent 8 = .ok (.iconst (-1), 1) := by decide +kernel
theorem dS_newestParent_9 : decode cS_newestParent 9 = .ok (.goto 15, 3) := by decide +kernel
theorem dS_newestParent_12 : decode cS_newestParent 12 = .ok (.aload_n 0, 1) := by decide +kernel
theorem dS_newestParent_13 : decode cS_newestParent 13 = .ok (.getfield 28, 3) := by decide +kernel
theorem dS_newestParent_16 : decode cS_newestParent 16 = .ok (.aload_n 0, 1) := by decide +kernel
theorem dS_newestParent_17 : decode cS_newestParent 17 = .ok (.getfield 28, 3) := by decide +kernel
theorem dS_newestParent_20 : decode cS_newestParent 20 = .ok (.arraylength, 1) := by decide +kernel
theorem dS_newestParent_21 : decode cS_newestParent 21 = .ok (.iconst 1, 1) := by decide +kernel
theorem dS_newestParent_22 : decode cS_newestParent 22 = .ok (.isub, 1) := by decide +kernel
theorem dS_newestParent_23 : decode cS_newestParent 23 = .ok (.iaload, 1) := by decide +kernel
theorem dS_newestParent_24 : decode cS_newestParent 24 = .ok (.ireturn, 1) := by decide +kernel
theorem dE_base_0 : decode cE_base 0 = .ok (.iload_n 1, 1) := by decide +kernel
theorem dE_base_1 : decode cE_base 1 = .ok (.invokestatic 136, 3) := by decide +kernel
theorem dE_base_4 : decode cE_base 4 = .ok (.istore_n 2, 1) := by decide +kernel
theorem dE_base_5 : decode cE_base 5 = .ok (.aload_n 0, 1) := by decide +kernel
theorem dE_base_6 : decode cE_base 6 = .ok (.getfield 28, 3) := by decide +kernel
theorem dE_base_9 : decode cE_base 9 = .ok (.astore_n 3, 1) := by decide +kernel
theorem dE_base_10 : decode cE_base 10 = .ok (.aload_n 3, 1) := by decide +kernel
theorem dE_base_11 : decode cE_base 11 = .ok (.ifnull 49, 3) := by decide +kernel
theorem dE_base_14 : decode cE_base 14 = .ok (.iload_n 2, 1) := by decide +kernel
theorem dE_base_15 : decode cE_base 15 = .ok (.aload_n 3, 1) := by decide +kernel
theorem dE_base_16 : decode cE_base 16 = .ok (.getfield 142, 3) := by decide +kernel
theorem dE_base_19 : decode cE_base 19 = .ok (.invokestatic 145, 3) := by decide +kernel
theorem dE_base_22 : decode cE_base 22 = .ok (.istore 4, 2) := by decide +kernel
theorem dE_base_24 : decode cE_base 24 = .ok (.aload_n 3, 1) := by decide +kernel
theorem dE_base_25 : decode cE_base 25 = .ok (.getfield 151, 3) := by decide +kernel
theorem dE_base_28 : decode cE_base 28 = .ok (.ifCond .eq 15, 3) := by decide +kernel
theorem dE_base_31 : decode cE_base 31 = .ok (.iload 4, 2) := by decide +kernel
theorem dE_base_33 : decode cE_base 33 = .ok (.aload_n 3, 1) := by decide +kernel
theorem dE_base_34 : decode cE_base 34 = .ok (.getfield 115, 3) := by decide +kernel
theorem dE_base_37 : decode cE_base 37 = .ok (.if_icmp .lt 6, 3) := by decide +kernel
theorem dE_base_40 : decode cE_base 40 = .ok (.iload 4, 2) := by decide +kernel
theorem dE_base_42 : decode cE_base 42 = .ok (.ireturn, 1) := by decide +kernel
theorem dE_base_43 : decode cE_base 43 = .ok (.iload_n 2, 1) := by decide +kernel
theorem dE_base_44 : decode cE_base 44 = .ok (.aload_n 3, 1) := by decide +kernel
theorem dE_base_45 : decode cE_base 45 = .ok (.invokevirtual 154, 3) := by decide +kernel
theorem dE_base_48 : decode cE_base 48 = .ok (.invokestatic 145, 3) := by decide +kernel
theorem dE_base_51 : decode cE_base 51 = .ok (.istore_n 2, 1) := by decide +kernel
theorem dE_base_52 : decode cE_base 52 = .ok (.aload_n 3, 1) := by decide +kernel
theorem dE_base_53 : decode cE_base 53 = .ok (.getfield 148, 3) := by decide +kernel
theorem dE_base_56 : decode cE_base 56 = .ok (.astore_n 3, 1) := by decide +kernel
theorem dE_base_57 : decode cE_base 57 = .ok (.goto (-47), 3) := by decide +kernel
theorem dE_base_60 : decode cE_base 60 = .ok (.iconst (-1), 1) := by decide +kernel
theorem dE_base_61 : decode cE_base 61 = .ok (.ireturn, 1) := by decide +kernel
theorem dE_highestBelow_0 : decode cE_highestBelow 0 = .ok (.iload_n 0, 1) := by decide +kernel
theorem dE_highestBelow_1 : decode cE_highestBelow 1 = .ok (.iconst 0, 1) := by decide +kernel
theorem dE_highestBelow_2 : decode cE_highestBelow 2 = .ok (.invokestatic 131, 3) := by decide +kernel
theorem dE_highestBelow_5 : decode cE_highestBelow 5 = .ok (.iconst 1, 1) := by decide +kernel
theorem dE_highestBelow_6 : decode cE_highestBelow 6 = .ok (.isub, 1) := by decide +kernel
theorem dE_highestBelow_7 : decode cE_highestBelow 7 = .ok (.ireturn, 1) := by decide +kernel
theorem dL_parent_0 : decode cL_parent 0 = .ok (.aload_n 3, 1) := by decide +kernel
theorem dL_parent_1 : decode cL_parent 1 = .ok (.iconst 0, 1) := by decide +kernel
theorem dL_parent_2 : decode cL_parent 2 = .ok (.aload_n 0, 1) := by decide +kernel
theorem dL_parent_3 : decode cL_parent 3 = .ok (.iload_n 1, 1) := by decide +kernel
theorem dL_parent_4 : decode cL_parent 4 = .ok (.iload_n 2, 1) := by decide +kernel
theorem dL_parent_5 : decode cL_parent 5 = .ok (.invokevirtual 7, 3) := by decide +kernel
theorem dL_parent_8 : decode cL_parent 8 = .ok (.i2l, 1) := by decide +kernel
theorem dL_parent_9 : decode cL_parent 9 = .ok (.lastore, 1) := by decide +kernel
theorem dL_parent_10 : decode cL_parent 10 = .ok (.goto 15, 3) := by decide +kernel
theorem dL_parent_13 : decode cL_parent 13 = .ok (.astore 4, 2) := by decide +kernel
theorem dL_parent_15 : decode cL_parent 15 = .ok (.iconst 1, 1) := by decide +kernel
theorem dL_parent_16 : decode cL_parent 16 = .ok (.ireturn, 1) := by decide +kernel
theorem dL_parent_17 : decode cL_parent 17 = .ok (.astore 4, 2) := by decide +kernel
theorem dL_parent_19 : decode cL_parent 19 = .ok (.iconst 2, 1) := by decide +kernel
theorem dL_parent_20 : decode cL_parent 20 = .ok (.ireturn, 1) := by decide +kernel
theorem dL_parent_21 : decode cL_parent 21 = .ok (.astore 4, 2) := by decide +kernel
theorem dL_parent_23 : decode cL_parent 23 = .ok (.iconst 3, 1) := by decide +kernel
theorem dL_parent_24 : decode cL_parent 24 = .ok (.ireturn, 1) := by decide +kernel
theorem dL_parent_25 : decode cL_parent 25 = .ok (.iconst 0, 1) := by decide +kernel
theorem dL_parent_26 : decode cL_parent 26 = .ok (.ireturn, 1) := by decide +kernel
theorem dE_parent_0 : decode cE_parent 0 = .ok (.aload_n 0, 1) := by decide +kernel
theorem dE_parent_1 : decode cE_parent 1 = .ok (.iload_n 1, 1) := by decide +kernel
theorem dE_parent_2 : decode cE_parent 2 = .ok (.iload_n 2, 1) := by decide +kernel
theorem dE_parent_3 : decode cE_parent 3 = .ok (.invokevirtual 39, 3) := by decide +kernel
theorem dE_parent_6 : decode cE_parent 6 = .ok (.istore_n 3, 1) := by decide +kernel
theorem dE_parent_7 : decode cE_parent 7 = .ok (.aload_n 0, 1) := by decide +kernel
theorem dE_parent_8 : decode cE_parent 8 = .ok (.iload_n 3, 1) := by decide +kernel
theorem dE_parent_9 : decode cE_parent 9 = .ok (.invokevirtual 43, 3) := by decide +kernel
theorem dE_parent_12 : decode cE_parent 12 = .ok (.ifCond .eq 11, 3) := by decide +kernel
theorem dE_parent_15 : decode cE_parent 15 = .ok (.new 47, 3) := by decide +kernel
theorem dE_parent_18 : decode cE_parent 18 = .ok (.dup, 1) := by decide +kernel
theorem dE_parent_19 : decode cE_parent 19 = .ok (.invokespecial 49, 3) := by decide +kernel
theorem dE_parent_22 : decode cE_parent 22 = .ok (.athrow, 1) := by decide +kernel
theorem dE_parent_23 : decode cE_parent 23 = .ok (.aload_n 0, 1) := by decide +kernel
theorem dE_parent_24 : decode cE_parent 24 = .ok (.getfield 36, 3) := by decide +kernel
theorem dE_parent_27 : decode cE_parent 27 = .ok (.bipush 16, 2) := by decide +kernel
theorem dE_parent_29 : decode cE_parent 29 = .ok (.if_icmp .lt 11, 3) := by decide +kernel
theorem dE_parent_32 : decode cE_parent 32 = .ok (.new 50, 3) := by decide +kernel
theorem dE_parent_35 : decode cE_parent 35 = .ok (.dup, 1) := by decide +kernel
theorem dE_parent_36 : decode cE_parent 36 = .ok (.invokespecial 52, 3) := by decide +kernel
theorem dE_parent_39 : decode cE_parent 39 = .ok (.athrow, 1) := by decide +kernel
theorem dE_parent_40 : decode cE_parent 40 = .ok (.aload_n 0, 1) := by decide +kernel
theorem dE_parent_41 : decode cE_parent 41 = .ok (.iload_n 3, 1) := by decide +kernel
theorem dE_parent_42 : decode cE_parent 42 = .ok (.invokevirtual 53, 3) := by decide +kernel
theorem dE_parent_45 : decode cE_parent 45 = .ok (.aload_n 0, 1) := by decide +kernel
theorem dE_parent_46 : decode cE_parent 46 = .ok (.getfield 36, 3) := by decide +kernel
theorem dE_parent_49 : decode cE_parent 49 = .ok (.ireturn, 1) := by decide +kernel
theorem dE_find_0 : decode cE_find 0 = .ok (.iload_n 1, 1) := by decide +kernel
theorem dE_find_1 : decode cE_find 1 = .ok (.invokestatic 64, 3) := by decide +kernel
theorem dE_find_4 : decode cE_find 4 = .ok (.ifCond .eq 12, 3) := by decide +kernel
theorem dE_find_7 : decode cE_find 7 = .ok (.aload_n 0, 1) := by decide +kernel
theorem dE_find_8 : decode cE_find 8 = .ok (.getfield 11, 3) := by decide +kernel
theorem dE_find_11 : decode cE_find 11 = .ok (.iload_n 1, 1) := by decide +kernel
theorem dE_find_12 : decode cE_find 12 = .ok (.aaload, 1) := by decide +kernel
theorem dE_find_13 : decode cE_find 13 = .ok (.ifnonnull 11, 3) := by decide +kernel
theorem dE_find_16 : decode cE_find 16 = .ok (.new 121, 3) := by decide +kernel
theorem dE_find_19 : decode cE_find 19 = .ok (.dup, 1) := by decide +kernel
theorem dE_find_20 : decode cE_find 20 = .ok (.invokespecial 123, 3) := by decide +kernel
theorem dE_find_23 : decode cE_find 23 = .ok (.athrow, 1) := by decide +kernel
theorem dE_find_24 : decode cE_find 24 = .ok (.aload_n 0, 1) := by decide +kernel
theorem dE_find_25 : decode cE_find 25 = .ok (.getfield 11, 3) := by decide +kernel
theorem dE_find_28 : decode cE_find 28 = .ok (.iload_n 1, 1) := by decide +kernel
theorem dE_find_29 : decode cE_find 29 = .ok (.aaload, 1) := by decide +kernel
theorem dE_find_30 : decode cE_find 30 = .ok (.getfield 158, 3) := by decide +kernel
theorem dE_find_33 : decode cE_find 33 = .ok (.astore_n 3, 1) := by decide +kernel
theorem dE_find_34 : decode cE_find 34 = .ok (.aload_n 3, 1) := by decide +kernel
theorem dE_find_35 : decode cE_find 35 = .ok (.ifnull 25, 3) := by decide +kernel
theorem dE_find_38 : decode cE_find 38 = .ok (.aload_n 3, 1) := by decide +kernel
theorem dE_find_39 : decode cE_find 39 = .ok (.iload_n 2, 1) := by decide +kernel
theorem dE_find_40 : decode cE_find 40 = .ok (.invokevirtual 159, 3) := by decide +kernel
theorem dE_find_43 : decode cE_find 43 = .ok (.ifCond .eq 9, 3) := by decide +kernel
theorem dE_find_46 : decode cE_find 46 = .ok (.aload_n 3, 1) := by decide +kernel
theorem dE_find_47 : decode cE_find 47 = .ok (.iload_n 2, 1) := by decide +kernel
theorem dE_find_48 : decode cE_find 48 = .ok (.invokevirtual 139, 3) := by decide +kernel
theorem dE_find_51 : decode cE_find 51 = .ok (.ireturn, 1) := by decide +kernel
theorem dE_find_52 : decode cE_find 52 = .ok (.aload_n 3, 1) := by decide +kernel
theorem dE_find_53 : decode cE_find 53 = .ok (.getfield 162, 3) := by decide +kernel
theorem dE_find_56 : decode cE_find 56 = .ok (.astore_n 3, 1) := by decide +kernel
theorem dE_find_57 : decode cE_find 57 = .ok (.goto (-23), 3) := by decide +kernel
theorem dE_find_60 : decode cE_find 60 = .ok (.new 121, 3) := by decide +kernel
theorem dE_find_63 : decode cE_find 63 = .ok (.dup, 1) := by decide +kernel
theorem dE_find_64 : decode cE_find 64 = .ok (.invokespecial 123, 3) := by decide +kernel
theorem dE_find_67 : decode cE_find 67 = .ok (.athrow, 1) := by decide +kernel
theorem dE_isAgentName_0 : decode cE_isAgentName 0 = .ok (.iload_n 0, 1) := by decide +kernel
theorem dE_isAgentName_1 : decode cE_isAgentName 1 = .ok (.ifCond .lt 14, 3) := by decide +kernel
theorem dE_isAgentName_4 : decode cE_isAgentName 4 = .ok (.iload_n 0, 1) := by decide +kernel
theorem dE_isAgentName_5 : decode cE_isAgentName 5 = .ok (.sipush 256, 3) := by decide +kernel
theorem dE_isAgentName_8 : decode cE_isAgentName 8 = .ok (.if_icmp .ge 7, 3) := by decide +kernel
theorem dE_isAgentName_11 : decode cE_isAgentName 11 = .ok (.iconst 1, 1) := by decide +kernel
theorem dE_isAgentName_12 : decode cE_isAgentName 12 = .ok (.goto 4, 3) := by decide +kernel
theorem dE_isAgentName_15 : decode cE_isAgentName 15 = .ok (.iconst 0, 1) := by decide +kernel
theorem dE_isAgentName_16 : decode cE_isAgentName 16 = .ok (.ireturn, 1) := by decide +kernel
theorem dS_hasNumber_0 : decode cS_hasNumber 0 = .ok (.iload_n 1, 1) := by decide +kernel
theorem dS_hasNumber_1 : decode cS_hasNumber 1 = .ok (.aload_n 0, 1) := by decide +kernel
theorem dS_hasNumber_2 : decode cS_hasNumber 2 = .ok (.getfield 25, 3) := by decide +kernel
theorem dS_hasNumber_5 : decode cS_hasNumber 5 = .ok (.if_icmp .lt 19, 3) := by decide +kernel
theorem dS_hasNumber_8 : decode cS_hasNumber 8 = .ok (.iload_n 1, 1) := by decide +kernel
theorem dS_hasNumber_9 : decode cS_hasNumber 9 = .ok (.aload_n 0, 1) := by decide +kernel
theorem dS_hasNumber_10 : decode cS_hasNumber 10 = .ok (.aload_n 0, 1) := by decide +kernel
theorem dS_hasNumber_11 : decode cS_hasNumber 11 = .ok (.getfield 17, 3) := by decide +kernel
theorem dS_hasNumber_14 : decode cS_hasNumber 14 = .ok (.invokevirtual 53, 3) := by decide +kernel
theorem dS_hasNumber_17 : decode cS_hasNumber 17 = .ok (.if_icmp .gt 7, 3) := by decide +kernel
theorem dS_hasNumber_20 : decode cS_hasNumber 20 = .ok (.iconst 1, 1) := by decide +kernel
theorem dS_hasNumber_21 : decode cS_hasNumber 21 = .ok (.goto 4, 3) := by decide +kernel
theorem dS_hasNumber_24 : decode cS_hasNumber 24 = .ok (.iconst 0, 1) := by decide +kernel
theorem dS_hasNumber_25 : decode cS_hasNumber 25 = .ok (.ireturn, 1) := by decide +kernel
theorem dS_numberAt_0 : decode cS_numberAt 0 = .ok (.aload_n 0, 1) := by decide +kernel
theorem dS_numberAt_1 : decode cS_numberAt 1 = .ok (.getfield 25, 3) := by decide +kernel
theorem dS_numberAt_4 : decode cS_numberAt 4 = .ok (.iload_n 1, 1) := by decide +kernel
theorem dS_numberAt_5 : decode cS_numberAt 5 = .ok (.iadd, 1) := by decide +kernel
theorem dS_numberAt_6 : decode cS_numberAt 6 = .ok (.aload_n 0, 1) := by decide +kernel
theorem dS_numberAt_7 : decode cS_numberAt 7 = .ok (.getfield 13, 3) := by decide +kernel
theorem dS_numberAt_10 : decode cS_numberAt 10 = .ok (.isub, 1) := by decide +kernel
theorem dS_numberAt_11 : decode cS_numberAt 11 = .ok (.ireturn, 1) := by decide +kernel
theorem dS_placeOfNumber_0 : decode cS_placeOfNumber 0 = .ok (.aload_n 0, 1) := by decide +kernel
theorem dS_placeOfNumber_1 : decode cS_placeOfNumber 1 = .ok (.getfield 13, 3) := by decide +kernel
theorem dS_placeOfNumber_4 : decode cS_placeOfNumber 4 = .ok (.iload_n 1, 1) := by decide +kernel
theorem dS_placeOfNumber_5 : decode cS_placeOfNumber 5 = .ok (.iadd, 1) := by decide +kernel
theorem dS_placeOfNumber_6 : decode cS_placeOfNumber 6 = .ok (.aload_n 0, 1) := by decide +kernel
theorem dS_placeOfNumber_7 : decode cS_placeOfNumber 7 = .ok (.getfield 25, 3) := by decide +kernel
theorem dS_placeOfNumber_10 : decode cS_placeOfNumber 10 = .ok (.isub, 1) := by decide +kernel
theorem dS_placeOfNumber_11 : decode cS_placeOfNumber 11 = .ok (.ireturn, 1) := by decide +kernel
theorem dE_isListed_0 : decode cE_isListed 0 = .ok (.iconst 0, 1) := by decide +kernel
theorem dE_isListed_1 : decode cE_isListed 1 = .ok (.istore_n 2, 1) := by decide +kernel
theorem dE_isListed_2 : decode cE_isListed 2 = .ok (.iload_n 2, 1) := by decide +kernel
theorem dE_isListed_3 : decode cE_isListed 3 = .ok (.aload_n 0, 1) := by decide +kernel
theorem dE_isListed_4 : decode cE_isListed 4 = .ok (.getfield 36, 3) := by decide +kernel
theorem dE_isListed_7 : decode cE_isListed 7 = .ok (.if_icmp .ge 21, 3) := by decide +kernel
theorem dE_isListed_10 : decode cE_isListed 10 = .ok (.aload_n 0, 1) := by decide +kernel
theorem dE_isListed_11 : decode cE_isListed 11 = .ok (.getfield 32, 3) := by decide +kernel
theorem dE_isListed_14 : decode cE_isListed 14 = .ok (.iload_n 2, 1) := by decide +kernel
theorem dE_isListed_15 : decode cE_isListed 15 = .ok (.iaload, 1) := by decide +kernel
theorem dE_isListed_16 : decode cE_isListed 16 = .ok (.iload_n 1, 1) := by decide +kernel
theorem dE_isListed_17 : decode cE_isListed 17 = .ok (.if_icmp .ne 5, 3) := by decide +kernel
theorem dE_isListed_20 : decode cE_isListed 20 = .ok (.iconst 1, 1) := by decide +kernel
theorem dE_isListed_21 : decode cE_isListed 21 = .ok (.ireturn, 1) := by decide +kernel
theorem dE_isListed_22 : decode cE_isListed 22 = .ok (.iinc 2 1, 3) := by decide +kernel
theorem dE_isListed_25 : decode cE_isListed 25 = .ok (.goto (-23), 3) := by decide +kernel
theorem dE_isListed_28 : decode cE_isListed 28 = .ok (.iconst 0, 1) := by decide +kernel
theorem dE_isListed_29 : decode cE_isListed 29 = .ok (.ireturn, 1) := by decide +kernel
theorem dL_add_0 : decode cL_add 0 = .ok (.aload_n 3, 1) := by decide +kernel
theorem dL_add_1 : decode cL_add 1 = .ok (.iconst 0, 1) := by decide +kernel
theorem dL_add_2 : decode cL_add 2 = .ok (.aload_n 0, 1) := by decide +kernel
theorem dL_add_3 : decode cL_add 3 = .ok (.iload_n 1, 1) := by decide +kernel
theorem dL_add_4 : decode cL_add 4 = .ok (.iload_n 2, 1) := by decide +kernel
theorem dL_add_5 : decode cL_add 5 = .ok (.invokevirtual 19, 3) := by decide +kernel
theorem dL_add_8 : decode cL_add 8 = .ok (.i2l, 1) := by decide +kernel
theorem dL_add_9 : decode cL_add 9 = .ok (.lastore, 1) := by decide +kernel
theorem dL_add_10 : decode cL_add 10 = .ok (.goto 15, 3) := by decide +kernel
theorem dL_add_13 : decode cL_add 13 = .ok (.astore 4, 2) := by decide +kernel
theorem dL_add_15 : decode cL_add 15 = .ok (.iconst 1, 1) := by decide +kernel
theorem dL_add_16 : decode cL_add 16 = .ok (.ireturn, 1) := by decide +kernel
theorem dL_add_17 : decode cL_add 17 = .ok (.astore 4, 2) := by decide +kernel
theorem dL_add_19 : decode cL_add 19 = .ok (.iconst 2, 1) := by decide +kernel
theorem dL_add_20 : decode cL_add 20 = .ok (.ireturn, 1) := by decide +kernel
theorem dL_add_21 : decode cL_add 21 = .ok (.astore 4, 2) := by decide +kernel
theorem dL_add_23 : decode cL_add 23 = .ok (.iconst 3, 1) := by decide +kernel
theorem dL_add_24 : decode cL_add 24 = .ok (.ireturn, 1) := by decide +kernel
theorem dL_add_25 : decode cL_add 25 = .ok (.iconst 0, 1) := by decide +kernel
theorem dL_add_26 : decode cL_add 26 = .ok (.ireturn, 1) := by decide +kernel
theorem dE_add_0 : decode cE_add 0 = .ok (.iload_n 1, 1) := by decide +kernel
theorem dE_add_1 : decode cE_add 1 = .ok (.invokestatic 64, 3) := by decide +kernel
theorem dE_add_4 : decode cE_add 4 = .ok (.ifCond .eq 15, 3) := by decide +kernel
theorem dE_add_7 : decode cE_add 7 = .ok (.iload_n 2, 1) := by decide +kernel
theorem dE_add_8 : decode cE_add 8 = .ok (.iconst 1, 1) := by decide +kernel
theorem dE_add_9 : decode cE_add 9 = .ok (.if_icmp .lt 10, 3) := by decide +kernel
theorem dE_add_12 : decode cE_add 12 = .ok (.iload_n 2, 1) := by decide +kernel
theorem dE_add_13 : decode cE_add 13 = .ok (.sipush 2000, 3) := by decide +kernel
theorem dE_add_16 : decode cE_add 16 = .ok (.if_icmp .le 11, 3) := by decide +kernel
theorem dE_add_19 : decode cE_add 19 = .ok (.new 67, 3) := by decide +kernel
theorem dE_add_22 : decode cE_add 22 = .ok (.dup, 1) := by decide +kernel
theorem dE_add_23 : decode cE_add 23 = .ok (.invokespecial 69, 3) := by decide +kernel
theorem dE_add_26 : decode cE_add 26 = .ok (.athrow, 1) := by decide +kernel
theorem dE_add_27 : decode cE_add 27 = .ok (.aload_n 0, 1) := by decide +kernel
theorem dE_add_28 : decode cE_add 28 = .ok (.invokevirtual 70, 3) := by decide +kernel
theorem dE_add_31 : decode cE_add 31 = .ok (.astore_n 3, 1) := by decide +kernel
theorem dE_add_32 : decode cE_add 32 = .ok (.aload_n 0, 1) := by decide +kernel
theorem dE_add_33 : decode cE_add 33 = .ok (.aload_n 3, 1) := by decide +kernel
theorem dE_add_34 : decode cE_add 34 = .ok (.invokevirtual 74, 3) := by decide +kernel
theorem dE_add_37 : decode cE_add 37 = .ok (.astore 4, 2) := by decide +kernel
theorem dE_add_39 : decode cE_add 39 = .ok (.aload_n 0, 1) := by decide +kernel
theorem dE_add_40 : decode cE_add 40 = .ok (.getfield 11, 3) := by decide +kernel
theorem dE_add_43 : decode cE_add 43 = .ok (.iload_n 1, 1) := by decide +kernel
theorem dE_add_44 : decode cE_add 44 = .ok (.aaload, 1) := by decide +kernel
theorem dE_add_45 : decode cE_add 45 = .ok (.astore 5, 2) := by decide +kernel
theorem dE_add_47 : decode cE_add 47 = .ok (.aload_n 0, 1) := by decide +kernel
theorem dE_add_48 : decode cE_add 48 = .ok (.aload_n 3, 1) := by decide +kernel
theorem dE_add_49 : decode cE_add 49 = .ok (.invokevirtual 78, 3) := by decide +kernel
theorem dE_add_52 : decode cE_add 52 = .ok (.ifCond .ne 24, 3) := by decide +kernel
theorem dE_add_55 : decode cE_add 55 = .ok (.aload 5, 2) := by decide +kernel
theorem dE_add_57 : decode cE_add 57 = .ok (.ifnull 27, 3) := by decide +kernel
theorem dE_add_60 : decode cE_add 60 = .ok (.aload 4, 2) := by decide +kernel
theorem dE_add_62 : decode cE_add 62 = .ok (.aload 5, 2) := by decide +kernel
theorem dE_add_64 : decode cE_add 64 = .ok (.getfield 82, 3) := by decide +kernel
theorem dE_add_67 : decode cE_add 67 = .ok (.iaload, 1) := by decide +kernel
theorem dE_add_68 : decode cE_add 68 = .ok (.aload 5, 2) := by decide +kernel
theorem dE_add_70 : decode cE_add 70 = .ok (.getfield 85, 3) := by decide +kernel
theorem dE_add_73 : decode cE_add 73 = .ok (.if_icmp .ge 11, 3) := by decide +kernel
theorem dE_add_76 : decode cE_add 76 = .ok (.new 47, 3) := by decide +kernel
theorem dE_add_79 : decode cE_add 79 = .ok (.dup, 1) := by decide +kernel
theorem dE_add_80 : decode cE_add 80 = .ok (.invokespecial 49, 3) := by decide +kernel
theorem dE_add_83 : decode cE_add 83 = .ok (.athrow, 1) := by decide +kernel
theorem dE_add_84 : decode cE_add 84 = .ok (.aload_n 0, 1) := by decide +kernel
theorem dE_add_85 : decode cE_add 85 = .ok (.getfield 25, 3) := by decide +kernel
theorem dE_add_88 : decode cE_add 88 = .ok (.iload_n 2, 1) := by decide +kernel
theorem dE_add_89 : decode cE_add 89 = .ok (.iadd, 1) := by decide +kernel
theorem dE_add_90 : decode cE_add 90 = .ok (.sipush 8192, 3) := by decide +kernel
theorem dE_add_93 : decode cE_add 93 = .ok (.if_icmp .gt 17, 3) := by decide +kernel
theorem dE_add_96 : decode cE_add 96 = .ok (.aload 5, 2) := by decide +kernel
theorem dE_add_98 : decode cE_add 98 = .ok (.ifnonnull 20, 3) := by decide +kernel
theorem dE_add_101 : decode cE_add 101 = .ok (.aload_n 0, 1) := by decide +kernel
theorem dE_add_102 : decode cE_add 102 = .ok (.getfield 15, 3) := by decide +kernel
theorem dE_add_105 : decode cE_add 105 = .ok (.bipush 16, 2) := by decide +kernel
theorem dE_add_107 : decode cE_add 107 = .ok (.if_icmp .lt 11, 3) := by decide +kernel
theorem dE_add_110 : decode cE_add 110 = .ok (.new 50, 3) := by decide +kernel
theorem dE_add_113 : decode cE_add 113 = .ok (.dup, 1) := by decide +kernel
theorem dE_add_114 : decode cE_add 114 = .ok (.invokespecial 52, 3) := by decide +kernel
theorem dE_add_117 : decode cE_add 117 = .ok (.athrow, 1) := by decide +kernel
theorem dE_add_118 : decode cE_add 118 = .ok (.aload_n 0, 1) := by decide +kernel
theorem dE_add_119 : decode cE_add 119 = .ok (.aload_n 3, 1) := by decide +kernel
theorem dE_add_120 : decode cE_add 120 = .ok (.invokevirtual 88, 3) := by decide +kernel
theorem dE_add_123 : decode cE_add 123 = .ok (.aload_n 0, 1) := by decide +kernel
theorem dE_add_124 : decode cE_add 124 = .ok (.aload 5, 2) := by decide +kernel
theorem dE_add_126 : decode cE_add 126 = .ok (.ifnonnull 11, 3) := by decide +kernel
theorem dE_add_129 : decode cE_add 129 = .ok (.aload_n 0, 1) := by decide +kernel
theorem dE_add_130 : decode cE_add 130 = .ok (.iload_n 1, 1) := by decide +kernel
theorem dE_add_131 : decode cE_add 131 = .ok (.invokevirtual 92, 3) := by decide +kernel
theorem dE_add_134 : decode cE_add 134 = .ok (.goto 5, 3) := by decide +kernel
theorem dE_add_137 : decode cE_add 137 = .ok (.aload 5, 2) := by decide +kernel
theorem dE_add_139 : decode cE_add 139 = .ok (.iload_n 2, 1) := by decide +kernel
theorem dE_add_140 : decode cE_add 140 = .ok (.aload_n 3, 1) := by decide +kernel
theorem dE_add_141 : decode cE_add 141 = .ok (.aload 4, 2) := by decide +kernel
theorem dE_add_143 : decode cE_add 143 = .ok (.invokevirtual 96, 3) := by decide +kernel
theorem dE_add_146 : decode cE_add 146 = .ok (.aload_n 0, 1) := by decide +kernel
theorem dE_add_147 : decode cE_add 147 = .ok (.getfield 25, 3) := by decide +kernel
theorem dE_add_150 : decode cE_add 150 = .ok (.iconst 1, 1) := by decide +kernel
theorem dE_add_151 : decode cE_add 151 = .ok (.isub, 1) := by decide +kernel
theorem dE_add_152 : decode cE_add 152 = .ok (.ireturn, 1) := by decide +kernel
theorem dE_takeList_0 : decode cE_takeList 0 = .ok (.aload_n 0, 1) := by decide +kernel
theorem dE_takeList_1 : decode cE_takeList 1 = .ok (.getfield 32, 3) := by decide +kernel
theorem dE_takeList_4 : decode cE_takeList 4 = .ok (.aload_n 0, 1) := by decide +kernel
theorem dE_takeList_5 : decode cE_takeList 5 = .ok (.getfield 36, 3) := by decide +kernel
theorem dE_takeList_8 : decode cE_takeList 8 = .ok (.invokestatic 165, 3) := by decide +kernel
theorem dE_takeList_11 : decode cE_takeList 11 = .ok (.astore_n 1, 1) := by decide +kernel
theorem dE_takeList_12 : decode cE_takeList 12 = .ok (.aload_n 0, 1) := by decide +kernel
theorem dE_takeList_13 : decode cE_takeList 13 = .ok (.iconst 0, 1) := by decide +kernel
theorem dE_takeList_14 : decode cE_takeList 14 = .ok (.putfield 36, 3) := by decide +kernel
theorem dE_takeList_17 : decode cE_takeList 17 = .ok (.aload_n 1, 1) := by decide +kernel
theorem dE_takeList_18 : decode cE_takeList 18 = .ok (.areturn, 1) := by decide +kernel
theorem dE_seenFrom_0 : decode cE_seenFrom 0 = .ok (.bipush 16, 2) := by decide +kernel
theorem dE_seenFrom_2 : decode cE_seenFrom 2 = .ok (.newarray .int, 2) := by decide +kernel
theorem dE_seenFrom_4 : decode cE_seenFrom 4 = .ok (.astore_n 2, 1) := by decide +kernel
theorem dE_seenFrom_5 : decode cE_seenFrom 5 = .ok (.aload_n 1, 1) := by decide +kernel
theorem dE_seenFrom_6 : decode cE_seenFrom 6 = .ok (.astore_n 3, 1) := by decide +kernel
theorem dE_seenFrom_7 : decode cE_seenFrom 7 = .ok (.aload_n 3, 1) := by decide +kernel
theorem dE_seenFrom_8 : decode cE_seenFrom 8 = .ok (.arraylength, 1) := by decide +kernel
theorem dE_seenFrom_9 : decode cE_seenFrom 9 = .ok (.istore 4, 2) := by decide +kernel
theorem dE_seenFrom_11 : decode cE_seenFrom 11 = .ok (.iconst 0, 1) := by decide +kernel
theorem dE_seenFrom_12 : decode cE_seenFrom 12 = .ok (.istore 5, 2) := by decide +kernel
theorem dE_seenFrom_14 : decode cE_seenFrom 14 = .ok (.iload 5, 2) := by decide +kernel
theorem dE_seenFrom_16 : decode cE_seenFrom 16 = .ok (.iload 4, 2) := by decide +kernel
theorem dE_seenFrom_18 : decode cE_seenFrom 18 = .ok (.if_icmp .ge 59, 3) := by decide +kernel
theorem dE_seenFrom_21 : decode cE_seenFrom 21 = .ok (.aload_n 3, 1) := by decide +kernel
theorem dE_seenFrom_22 : decode cE_seenFrom 22 = .ok (.iload 5, 2) := by decide +kernel
theorem dE_seenFrom_24 : decode cE_seenFrom 24 = .ok (.iaload, 1) := by decide +kernel
theorem dE_seenFrom_25 : decode cE_seenFrom 25 = .ok (.istore 6, 2) := by decide +kernel
theorem dE_seenFrom_27 : decode cE_seenFrom 27 = .ok (.aload_n 0, 1) := by decide +kernel
theorem dE_seenFrom_28 : decode cE_seenFrom 28 = .ok (.iload 6, 2) := by decide +kernel
theorem dE_seenFrom_30 : decode cE_seenFrom 30 = .ok (.invokevirtual 100, 3) := by decide +kernel
theorem dE_seenFrom_33 : decode cE_seenFrom 33 = .ok (.astore 7, 2) := by decide +kernel
theorem dE_seenFrom_35 : decode cE_seenFrom 35 = .ok (.iconst 0, 1) := by decide +kernel
theorem dE_seenFrom_36 : decode cE_seenFrom 36 = .ok (.istore 8, 2) := by decide +kernel
theorem dE_seenFrom_38 : decode cE_seenFrom 38 = .ok (.iload 8, 2) := by decide +kernel
theorem dE_seenFrom_40 : decode cE_seenFrom 40 = .ok (.bipush 16, 2) := by decide +kernel
theorem dE_seenFrom_42 : decode cE_seenFrom 42 = .ok (.if_icmp .ge 29, 3) := by decide +kernel
theorem dE_seenFrom_45 : decode cE_seenFrom 45 = .ok (.aload_n 2, 1) := by decide +kernel
theorem dE_seenFrom_46 : decode cE_seenFrom 46 = .ok (.iload 8, 2) := by decide +kernel
theorem dE_seenFrom_48 : decode cE_seenFrom 48 = .ok (.aload_n 2, 1) := by decide +kernel
theorem dE_seenFrom_49 : decode cE_seenFrom 49 = .ok (.iload 8, 2) := by decide +kernel
theorem dE_seenFrom_51 : decode cE_seenFrom 51 = .ok (.iaload, 1) := by decide +kernel
theorem dE_seenFrom_52 : decode cE_seenFrom 52 = .ok (.aload 7, 2) := by decide +kernel
theorem dE_seenFrom_54 : decode cE_seenFrom 54 = .ok (.iload 6, 2) := by decide +kernel
theorem dE_seenFrom_56 : decode cE_seenFrom 56 = .ok (.iload 8, 2) := by decide +kernel
theorem dE_seenFrom_58 : decode cE_seenFrom 58 = .ok (.invokevirtual 128, 3) := by decide +kernel
theorem dE_seenFrom_61 : decode cE_seenFrom 61 = .ok (.invokestatic 131, 3) := by decide +kernel
theorem dE_seenFrom_64 : decode cE_seenFrom 64 = .ok (.iastore, 1) := by decide +kernel
theorem dE_seenFrom_65 : decode cE_seenFrom 65 = .ok (.iinc 8 1, 3) := by decide +kernel
theorem dE_seenFrom_68 : decode cE_seenFrom 68 = .ok (.goto (-30), 3) := by decide +kernel
theorem dE_seenFrom_71 : decode cE_seenFrom 71 = .ok (.iinc 5 1, 3) := by decide +kernel
theorem dE_seenFrom_74 : decode cE_seenFrom 74 = .ok (.goto (-60), 3) := by decide +kernel
theorem dE_seenFrom_77 : decode cE_seenFrom 77 = .ok (.aload_n 2, 1) := by decide +kernel
theorem dE_seenFrom_78 : decode cE_seenFrom 78 = .ok (.areturn, 1) := by decide +kernel
