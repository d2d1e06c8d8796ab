theorem d_Part_init_0 : decode b_Part_init 0 = .ok (.aload_n 0, 1) := by decide +kernel
theorem d_Part_init_1 : decode b_Part_init 1 = .ok (.invokespecial 1, 3) := by decide +kernel
theorem d_Part_init_4 : decode b_Part_init 4 = .ok (.aload_n 0, 1) := by decide +kernel
theorem d_Part_init_5 : decode b_Part_init 5 = .ok (.iload_n 1, 1) := by decide +kernel
theorem d_Part_init_6 : decode b_Part_init 6 = .ok (.putfield 7, 3) := by decide +kernel
theorem d_Part_init_9 : decode b_Part_init 9 = .ok (.aload_n 0, 1) := by decide +kernel
theorem d_Part_init_10 : decode b_Part_init 10 = .ok (.iload_n 2, 1) := by decide +kernel
theorem d_Part_init_11 : decode b_Part_init 11 = .ok (.putfield 13, 3) := by decide +kernel
theorem d_Part_init_14 : decode b_Part_init 14 = .ok (.aload_n 0, 1) := by decide +kernel
theorem d_Part_init_15 : decode b_Part_init 15 = .ok (.iload_n 3, 1) := by decide +kernel
theorem d_Part_init_16 : decode b_Part_init 16 = .ok (.putfield 16, 3) := by decide +kernel
theorem d_Part_init_19 : decode b_Part_init 19 = .ok (.return_, 1) := by decide +kernel
theorem d_Part_around_0 : decode b_Part_around 0 = .ok (.iload_n 1, 1) := by decide +kernel
theorem d_Part_around_1 : decode b_Part_around 1 = .ok (.aload_n 0, 1) := by decide +kernel
theorem d_Part_around_2 : decode b_Part_around 2 = .ok (.getfield 13, 3) := by decide +kernel
theorem d_Part_around_5 : decode b_Part_around 5 = .ok (.iconst 1, 1) := by decide +kernel
theorem d_Part_around_6 : decode b_Part_around 6 = .ok (.isub, 1) := by decide +kernel
theorem d_Part_around_7 : decode b_Part_around 7 = .ok (.iand, 1) := by decide +kernel
theorem d_Part_around_8 : decode b_Part_around 8 = .ok (.ireturn, 1) := by decide +kernel
theorem d_Part_slotOf_0 : decode b_Part_slotOf 0 = .ok (.aload_n 0, 1) := by decide +kernel
theorem d_Part_slotOf_1 : decode b_Part_slotOf 1 = .ok (.getfield 7, 3) := by decide +kernel
theorem d_Part_slotOf_4 : decode b_Part_slotOf 4 = .ok (.iload_n 1, 1) := by decide +kernel
theorem d_Part_slotOf_5 : decode b_Part_slotOf 5 = .ok (.aload_n 0, 1) := by decide +kernel
theorem d_Part_slotOf_6 : decode b_Part_slotOf 6 = .ok (.getfield 13, 3) := by decide +kernel
theorem d_Part_slotOf_9 : decode b_Part_slotOf 9 = .ok (.iconst 1, 1) := by decide +kernel
theorem d_Part_slotOf_10 : decode b_Part_slotOf 10 = .ok (.isub, 1) := by decide +kernel
theorem d_Part_slotOf_11 : decode b_Part_slotOf 11 = .ok (.iand, 1) := by decide +kernel
theorem d_Part_slotOf_12 : decode b_Part_slotOf 12 = .ok (.iadd, 1) := by decide +kernel
theorem d_Part_slotOf_13 : decode b_Part_slotOf 13 = .ok (.ireturn, 1) := by decide +kernel
theorem d_Part_homeOf_0 : decode b_Part_homeOf 0 = .ok (.iload_n 1, 1) := by decide +kernel
theorem d_Part_homeOf_1 : decode b_Part_homeOf 1 = .ok (.aload_n 0, 1) := by decide +kernel
theorem d_Part_homeOf_2 : decode b_Part_homeOf 2 = .ok (.getfield 16, 3) := by decide +kernel
theorem d_Part_homeOf_5 : decode b_Part_homeOf 5 = .ok (.ixor, 1) := by decide +kernel
theorem d_Part_homeOf_6 : decode b_Part_homeOf 6 = .ok (.ldc 19, 2) := by decide +kernel
theorem d_Part_homeOf_8 : decode b_Part_homeOf 8 = .ok (.imul, 1) := by decide +kernel
theorem d_Part_homeOf_9 : decode b_Part_homeOf 9 = .ok (.bipush 9, 2) := by decide +kernel
theorem d_Part_homeOf_11 : decode b_Part_homeOf 11 = .ok (.iushr, 1) := by decide +kernel
theorem d_Part_homeOf_12 : decode b_Part_homeOf 12 = .ok (.aload_n 0, 1) := by decide +kernel
theorem d_Part_homeOf_13 : decode b_Part_homeOf 13 = .ok (.getfield 13, 3) := by decide +kernel
theorem d_Part_homeOf_16 : decode b_Part_homeOf 16 = .ok (.iconst 1, 1) := by decide +kernel
theorem d_Part_homeOf_17 : decode b_Part_homeOf 17 = .ok (.isub, 1) := by decide +kernel
theorem d_Part_homeOf_18 : decode b_Part_homeOf 18 = .ok (.iand, 1) := by decide +kernel
theorem d_Part_homeOf_19 : decode b_Part_homeOf 19 = .ok (.ireturn, 1) := by decide +kernel
theorem d_Part_end_0 : decode b_Part_end 0 = .ok (.aload_n 0, 1) := by decide +kernel
theorem d_Part_end_1 : decode b_Part_end 1 = .ok (.getfield 7, 3) := by decide +kernel
theorem d_Part_end_4 : decode b_Part_end 4 = .ok (.aload_n 0, 1) := by decide +kernel
theorem d_Part_end_5 : decode b_Part_end 5 = .ok (.getfield 13, 3) := by decide +kernel
theorem d_Part_end_8 : decode b_Part_end 8 = .ok (.iadd, 1) := by decide +kernel
theorem d_Part_end_9 : decode b_Part_end 9 = .ok (.ireturn, 1) := by decide +kernel
theorem d_Part_isPlace_0 : decode b_Part_isPlace 0 = .ok (.iload_n 1, 1) := by decide +kernel
theorem d_Part_isPlace_1 : decode b_Part_isPlace 1 = .ok (.ifCond .lt 15, 3) := by decide +kernel
theorem d_Part_isPlace_4 : decode b_Part_isPlace 4 = .ok (.iload_n 1, 1) := by decide +kernel
theorem d_Part_isPlace_5 : decode b_Part_isPlace 5 = .ok (.aload_n 0, 1) := by decide +kernel
theorem d_Part_isPlace_6 : decode b_Part_isPlace 6 = .ok (.getfield 13, 3) := by decide +kernel
theorem d_Part_isPlace_9 : decode b_Part_isPlace 9 = .ok (.if_icmp .ge 7, 3) := by decide +kernel
theorem d_Part_isPlace_12 : decode b_Part_isPlace 12 = .ok (.iconst 1, 1) := by decide +kernel
theorem d_Part_isPlace_13 : decode b_Part_isPlace 13 = .ok (.goto 4, 3) := by decide +kernel
theorem d_Part_isPlace_16 : decode b_Part_isPlace 16 = .ok (.iconst 0, 1) := by decide +kernel
theorem d_Part_isPlace_17 : decode b_Part_isPlace 17 = .ok (.ireturn, 1) := by decide +kernel
theorem d_Hop_init_0 : decode b_Hop_init 0 = .ok (.aload_n 0, 1) := by decide +kernel
theorem d_Hop_init_1 : decode b_Hop_init 1 = .ok (.invokespecial 1, 3) := by decide +kernel
theorem d_Hop_init_4 : decode b_Hop_init 4 = .ok (.aload_n 0, 1) := by decide +kernel
theorem d_Hop_init_5 : decode b_Hop_init 5 = .ok (.sipush 256, 3) := by decide +kernel
theorem d_Hop_init_8 : decode b_Hop_init 8 = .ok (.newarray .int, 2) := by decide +kernel
theorem d_Hop_init_10 : decode b_Hop_init 10 = .ok (.putfield 9, 3) := by decide +kernel
theorem d_Hop_init_13 : decode b_Hop_init 13 = .ok (.aload_n 0, 1) := by decide +kernel
theorem d_Hop_init_14 : decode b_Hop_init 14 = .ok (.sipush 256, 3) := by decide +kernel
theorem d_Hop_init_17 : decode b_Hop_init 17 = .ok (.newarray .int, 2) := by decide +kernel
theorem d_Hop_init_19 : decode b_Hop_init 19 = .ok (.putfield 13, 3) := by decide +kernel
theorem d_Hop_init_22 : decode b_Hop_init 22 = .ok (.aload_n 0, 1) := by decide +kernel
theorem d_Hop_init_23 : decode b_Hop_init 23 = .ok (.sipush 256, 3) := by decide +kernel
theorem d_Hop_init_26 : decode b_Hop_init 26 = .ok (.newarray .boolean, 2) := by decide +kernel
theorem d_Hop_init_28 : decode b_Hop_init 28 = .ok (.putfield 16, 3) := by decide +kernel
theorem d_Hop_init_31 : decode b_Hop_init 31 = .ok (.aload_n 0, 1) := by decide +kernel
theorem d_Hop_init_32 : decode b_Hop_init 32 = .ok (.iconst 3, 1) := by decide +kernel
theorem d_Hop_init_33 : decode b_Hop_init 33 = .ok (.newarray .int, 2) := by decide +kernel
theorem d_Hop_init_35 : decode b_Hop_init 35 = .ok (.putfield 20, 3) := by decide +kernel
theorem d_Hop_init_38 : decode b_Hop_init 38 = .ok (.aload_n 0, 1) := by decide +kernel
theorem d_Hop_init_39 : decode b_Hop_init 39 = .ok (.iconst 3, 1) := by decide +kernel
theorem d_Hop_init_40 : decode b_Hop_init 40 = .ok (.anewarray 23, 3) := by decide +kernel
theorem d_Hop_init_43 : decode b_Hop_init 43 = .ok (.putfield 25, 3) := by decide +kernel
theorem d_Hop_init_46 : decode b_Hop_init 46 = .ok (.iconst 0, 1) := by decide +kernel
theorem d_Hop_init_47 : decode b_Hop_init 47 = .ok (.istore_n 1, 1) := by decide +kernel
theorem d_Hop_init_48 : decode b_Hop_init 48 = .ok (.iload_n 1, 1) := by decide +kernel
theorem d_Hop_init_49 : decode b_Hop_init 49 = .ok (.iconst 3, 1) := by decide +kernel
theorem d_Hop_init_50 : decode b_Hop_init 50 = .ok (.if_icmp .ge 31, 3) := by decide +kernel
theorem d_Hop_init_53 : decode b_Hop_init 53 = .ok (.aload_n 0, 1) := by decide +kernel
theorem d_Hop_init_54 : decode b_Hop_init 54 = .ok (.getfield 25, 3) := by decide +kernel
theorem d_Hop_init_57 : decode b_Hop_init 57 = .ok (.iload_n 1, 1) := by decide +kernel
theorem d_Hop_init_58 : decode b_Hop_init 58 = .ok (.new 23, 3) := by decide +kernel
theorem d_Hop_init_61 : decode b_Hop_init 61 = .ok (.dup, 1) := by decide +kernel
theorem d_Hop_init_62 : decode b_Hop_init 62 = .ok (.iload_n 1, 1) := by decide +kernel
theorem d_Hop_init_63 : decode b_Hop_init 63 = .ok (.bipush 8, 2) := by decide +kernel
theorem d_Hop_init_65 : decode b_Hop_init 65 = .ok (.imul, 1) := by decide +kernel
theorem d_Hop_init_66 : decode b_Hop_init 66 = .ok (.bipush 8, 2) := by decide +kernel
theorem d_Hop_init_68 : decode b_Hop_init 68 = .ok (.iload_n 1, 1) := by decide +kernel
theorem d_Hop_init_69 : decode b_Hop_init 69 = .ok (.iconst 1, 1) := by decide +kernel
theorem d_Hop_init_70 : decode b_Hop_init 70 = .ok (.iadd, 1) := by decide +kernel
theorem d_Hop_init_71 : decode b_Hop_init 71 = .ok (.invokespecial 29, 3) := by decide +kernel
theorem d_Hop_init_74 : decode b_Hop_init 74 = .ok (.aastore, 1) := by decide +kernel
theorem d_Hop_init_75 : decode b_Hop_init 75 = .ok (.iinc 1 1, 3) := by decide +kernel
theorem d_Hop_init_78 : decode b_Hop_init 78 = .ok (.goto (-30), 3) := by decide +kernel
theorem d_Hop_init_81 : decode b_Hop_init 81 = .ok (.aload_n 0, 1) := by decide +kernel
theorem d_Hop_init_82 : decode b_Hop_init 82 = .ok (.new 23, 3) := by decide +kernel
theorem d_Hop_init_85 : decode b_Hop_init 85 = .ok (.dup, 1) := by decide +kernel
theorem d_Hop_init_86 : decode b_Hop_init 86 = .ok (.iconst 0, 1) := by decide +kernel
theorem d_Hop_init_87 : decode b_Hop_init 87 = .ok (.bipush 8, 2) := by decide +kernel
theorem d_Hop_init_89 : decode b_Hop_init 89 = .ok (.iconst 0, 1) := by decide +kernel
theorem d_Hop_init_90 : decode b_Hop_init 90 = .ok (.invokespecial 29, 3) := by decide +kernel
theorem d_Hop_init_93 : decode b_Hop_init 93 = .ok (.putfield 32, 3) := by decide +kernel
theorem d_Hop_init_96 : decode b_Hop_init 96 = .ok (.return_, 1) := by decide +kernel
theorem d_Hop_put_0 : decode b_Hop_put 0 = .ok (.aload_n 0, 1) := by decide +kernel
theorem d_Hop_put_1 : decode b_Hop_put 1 = .ok (.iload_n 1, 1) := by decide +kernel
theorem d_Hop_put_2 : decode b_Hop_put 2 = .ok (.invokevirtual 36, 3) := by decide +kernel
theorem d_Hop_put_5 : decode b_Hop_put 5 = .ok (.astore 4, 2) := by decide +kernel
theorem d_Hop_put_7 : decode b_Hop_put 7 = .ok (.aload_n 0, 1) := by decide +kernel
theorem d_Hop_put_8 : decode b_Hop_put 8 = .ok (.aload 4, 2) := by decide +kernel
theorem d_Hop_put_10 : decode b_Hop_put 10 = .ok (.iload_n 2, 1) := by decide +kernel
theorem d_Hop_put_11 : decode b_Hop_put 11 = .ok (.invokevirtual 40, 3) := by decide +kernel
theorem d_Hop_put_14 : decode b_Hop_put 14 = .ok (.istore 5, 2) := by decide +kernel
theorem d_Hop_put_16 : decode b_Hop_put 16 = .ok (.iload 5, 2) := by decide +kernel
theorem d_Hop_put_18 : decode b_Hop_put 18 = .ok (.iconst (-1), 1) := by decide +kernel
theorem d_Hop_put_19 : decode b_Hop_put 19 = .ok (.if_icmp .eq 13, 3) := by decide +kernel
theorem d_Hop_put_22 : decode b_Hop_put 22 = .ok (.aload_n 0, 1) := by decide +kernel
theorem d_Hop_put_23 : decode b_Hop_put 23 = .ok (.getfield 13, 3) := by decide +kernel
theorem d_Hop_put_26 : decode b_Hop_put 26 = .ok (.iload 5, 2) := by decide +kernel
theorem d_Hop_put_28 : decode b_Hop_put 28 = .ok (.iload_n 3, 1) := by decide +kernel
theorem d_Hop_put_29 : decode b_Hop_put 29 = .ok (.iastore, 1) := by decide +kernel
theorem d_Hop_put_30 : decode b_Hop_put 30 = .ok (.iconst 1, 1) := by decide +kernel
theorem d_Hop_put_31 : decode b_Hop_put 31 = .ok (.ireturn, 1) := by decide +kernel
theorem d_Hop_put_32 : decode b_Hop_put 32 = .ok (.aload_n 0, 1) := by decide +kernel
theorem d_Hop_put_33 : decode b_Hop_put 33 = .ok (.aload 4, 2) := by decide +kernel
theorem d_Hop_put_35 : decode b_Hop_put 35 = .ok (.iload_n 2, 1) := by decide +kernel
theorem d_Hop_put_36 : decode b_Hop_put 36 = .ok (.iload_n 3, 1) := by decide +kernel
theorem d_Hop_put_37 : decode b_Hop_put 37 = .ok (.invokevirtual 44, 3) := by decide +kernel
theorem d_Hop_put_40 : decode b_Hop_put 40 = .ok (.ifCond .ne 23, 3) := by decide +kernel
theorem d_Hop_put_43 : decode b_Hop_put 43 = .ok (.aload_n 0, 1) := by decide +kernel
theorem d_Hop_put_44 : decode b_Hop_put 44 = .ok (.iload_n 1, 1) := by decide +kernel
theorem d_Hop_put_45 : decode b_Hop_put 45 = .ok (.iload_n 2, 1) := by decide +kernel
theorem d_Hop_put_46 : decode b_Hop_put 46 = .ok (.iload_n 3, 1) := by decide +kernel
theorem d_Hop_put_47 : decode b_Hop_put 47 = .ok (.invokevirtual 48, 3) := by decide +kernel
theorem d_Hop_put_50 : decode b_Hop_put 50 = .ok (.ifCond .ne 13, 3) := by decide +kernel
theorem d_Hop_put_53 : decode b_Hop_put 53 = .ok (.new 52, 3) := by decide +kernel
theorem d_Hop_put_56 : decode b_Hop_put 56 = .ok (.dup, 1) := by decide +kernel
theorem d_Hop_put_57 : decode b_Hop_put 57 = .ok (.ldc 54, 2) := by decide +kernel
theorem d_Hop_put_59 : decode b_Hop_put 59 = .ok (.invokespecial 56, 3) := by decide +kernel
theorem d_Hop_put_62 : decode b_Hop_put 62 = .ok (.athrow, 1) := by decide +kernel
theorem d_Hop_put_63 : decode b_Hop_put 63 = .ok (.iconst 0, 1) := by decide +kernel
theorem d_Hop_put_64 : decode b_Hop_put 64 = .ok (.ireturn, 1) := by decide +kernel
theorem d_Hop_get_0 : decode b_Hop_get 0 = .ok (.aload_n 0, 1) := by decide +kernel
theorem d_Hop_get_1 : decode b_Hop_get 1 = .ok (.getfield 13, 3) := by decide +kernel
theorem d_Hop_get_4 : decode b_Hop_get 4 = .ok (.aload_n 0, 1) := by decide +kernel
theorem d_Hop_get_5 : decode b_Hop_get 5 = .ok (.aload_n 0, 1) := by decide +kernel
theorem d_Hop_get_6 : decode b_Hop_get 6 = .ok (.iload_n 1, 1) := by decide +kernel
theorem d_Hop_get_7 : decode b_Hop_get 7 = .ok (.invokevirtual 36, 3) := by decide +kernel
theorem d_Hop_get_10 : decode b_Hop_get 10 = .ok (.iload_n 2, 1) := by decide +kernel
theorem d_Hop_get_11 : decode b_Hop_get 11 = .ok (.invokevirtual 59, 3) := by decide +kernel
theorem d_Hop_get_14 : decode b_Hop_get 14 = .ok (.iaload, 1) := by decide +kernel
theorem d_Hop_get_15 : decode b_Hop_get 15 = .ok (.ireturn, 1) := by decide +kernel
theorem d_Hop_remove_0 : decode b_Hop_remove 0 = .ok (.aload_n 0, 1) := by decide +kernel
theorem d_Hop_remove_1 : decode b_Hop_remove 1 = .ok (.aload_n 0, 1) := by decide +kernel
theorem d_Hop_remove_2 : decode b_Hop_remove 2 = .ok (.iload_n 1, 1) := by decide +kernel
theorem d_Hop_remove_3 : decode b_Hop_remove 3 = .ok (.invokevirtual 36, 3) := by decide +kernel
theorem d_Hop_remove_6 : decode b_Hop_remove 6 = .ok (.iload_n 2, 1) := by decide +kernel
theorem d_Hop_remove_7 : decode b_Hop_remove 7 = .ok (.invokevirtual 59, 3) := by decide +kernel
theorem d_Hop_remove_10 : decode b_Hop_remove 10 = .ok (.istore_n 3, 1) := by decide +kernel
theorem d_Hop_remove_11 : decode b_Hop_remove 11 = .ok (.aload_n 0, 1) := by decide +kernel
theorem d_Hop_remove_12 : decode b_Hop_remove 12 = .ok (.getfield 16, 3) := by decide +kernel
theorem d_Hop_remove_15 : decode b_Hop_remove 15 = .ok (.iload_n 3, 1) := by decide +kernel
theorem d_Hop_remove_16 : decode b_Hop_remove 16 = .ok (.iconst 0, 1) := by decide +kernel
theorem d_Hop_remove_17 : decode b_Hop_remove 17 = .ok (.bastore, 1) := by decide +kernel
theorem d_Hop_remove_18 : decode b_Hop_remove 18 = .ok (.aload_n 0, 1) := by decide +kernel
theorem d_Hop_remove_19 : decode b_Hop_remove 19 = .ok (.getfield 13, 3) := by decide +kernel
theorem d_Hop_remove_22 : decode b_Hop_remove 22 = .ok (.iload_n 3, 1) := by decide +kernel
theorem d_Hop_remove_23 : decode b_Hop_remove 23 = .ok (.iaload, 1) := by decide +kernel
theorem d_Hop_remove_24 : decode b_Hop_remove 24 = .ok (.ireturn, 1) := by decide +kernel
theorem d_Hop_has_0 : decode b_Hop_has 0 = .ok (.aload_n 0, 1) := by decide +kernel
theorem d_Hop_has_1 : decode b_Hop_has 1 = .ok (.aload_n 0, 1) := by decide +kernel
theorem d_Hop_has_2 : decode b_Hop_has 2 = .ok (.iload_n 1, 1) := by decide +kernel
theorem d_Hop_has_3 : decode b_Hop_has 3 = .ok (.invokevirtual 36, 3) := by decide +kernel
theorem d_Hop_has_6 : decode b_Hop_has 6 = .ok (.iload_n 2, 1) := by decide +kernel
theorem d_Hop_has_7 : decode b_Hop_has 7 = .ok (.invokevirtual 40, 3) := by decide +kernel
theorem d_Hop_has_10 : decode b_Hop_has 10 = .ok (.iconst (-1), 1) := by decide +kernel
theorem d_Hop_has_11 : decode b_Hop_has 11 = .ok (.if_icmp .eq 7, 3) := by decide +kernel
theorem d_Hop_has_14 : decode b_Hop_has 14 = .ok (.iconst 1, 1) := by decide +kernel
theorem d_Hop_has_15 : decode b_Hop_has 15 = .ok (.goto 4, 3) := by decide +kernel
theorem d_Hop_has_18 : decode b_Hop_has 18 = .ok (.iconst 0, 1) := by decide +kernel
theorem d_Hop_has_19 : decode b_Hop_has 19 = .ok (.ireturn, 1) := by decide +kernel
theorem d_Hop_size_0 : decode b_Hop_size 0 = .ok (.aload_n 0, 1) := by decide +kernel
theorem d_Hop_size_1 : decode b_Hop_size 1 = .ok (.aload_n 0, 1) := by decide +kernel
theorem d_Hop_size_2 : decode b_Hop_size 2 = .ok (.iload_n 1, 1) := by decide +kernel
theorem d_Hop_size_3 : decode b_Hop_size 3 = .ok (.invokevirtual 36, 3) := by decide +kernel
theorem d_Hop_size_6 : decode b_Hop_size 6 = .ok (.invokevirtual 62, 3) := by decide +kernel
theorem d_Hop_size_9 : decode b_Hop_size 9 = .ok (.ireturn, 1) := by decide +kernel
theorem d_Hop_clear_0 : decode b_Hop_clear 0 = .ok (.aload_n 0, 1) := by decide +kernel
theorem d_Hop_clear_1 : decode b_Hop_clear 1 = .ok (.iload_n 1, 1) := by decide +kernel
theorem d_Hop_clear_2 : decode b_Hop_clear 2 = .ok (.invokevirtual 36, 3) := by decide +kernel
theorem d_Hop_clear_5 : decode b_Hop_clear 5 = .ok (.astore_n 2, 1) := by decide +kernel
theorem d_Hop_clear_6 : decode b_Hop_clear 6 = .ok (.aload_n 0, 1) := by decide +kernel
theorem d_Hop_clear_7 : decode b_Hop_clear 7 = .ok (.aload_n 2, 1) := by decide +kernel
theorem d_Hop_clear_8 : decode b_Hop_clear 8 = .ok (.invokevirtual 62, 3) := by decide +kernel
theorem d_Hop_clear_11 : decode b_Hop_clear 11 = .ok (.istore_n 3, 1) := by decide +kernel
theorem d_Hop_clear_12 : decode b_Hop_clear 12 = .ok (.aload_n 2, 1) := by decide +kernel
theorem d_Hop_clear_13 : decode b_Hop_clear 13 = .ok (.bipush 8, 2) := by decide +kernel
theorem d_Hop_clear_15 : decode b_Hop_clear 15 = .ok (.putfield 66, 3) := by decide +kernel
theorem d_Hop_clear_18 : decode b_Hop_clear 18 = .ok (.aload_n 0, 1) := by decide +kernel
theorem d_Hop_clear_19 : decode b_Hop_clear 19 = .ok (.aload_n 2, 1) := by decide +kernel
theorem d_Hop_clear_20 : decode b_Hop_clear 20 = .ok (.invokevirtual 70, 3) := by decide +kernel
theorem d_Hop_clear_23 : decode b_Hop_clear 23 = .ok (.iload_n 3, 1) := by decide +kernel
theorem d_Hop_clear_24 : decode b_Hop_clear 24 = .ok (.ireturn, 1) := by decide +kernel
theorem d_Hop_about_0 : decode b_Hop_about 0 = .ok (.aload_n 0, 1) := by decide +kernel
theorem d_Hop_about_1 : decode b_Hop_about 1 = .ok (.iload_n 1, 1) := by decide +kernel
theorem d_Hop_about_2 : decode b_Hop_about 2 = .ok (.invokevirtual 36, 3) := by decide +kernel
theorem d_Hop_about_5 : decode b_Hop_about 5 = .ok (.astore_n 3, 1) := by decide +kernel
theorem d_Hop_about_6 : decode b_Hop_about 6 = .ok (.iload_n 2, 1) := by decide +kernel
theorem d_Hop_about_7 : decode b_Hop_about 7 = .ok (.tableswitch 40 0 2 #[25, 30, 35], 25) := by decide +kernel
theorem d_Hop_about_32 : decode b_Hop_about 32 = .ok (.aload_n 3, 1) := by decide +kernel
theorem d_Hop_about_33 : decode b_Hop_about 33 = .ok (.getfield 66, 3) := by decide +kernel
theorem d_Hop_about_36 : decode b_Hop_about 36 = .ok (.ireturn, 1) := by decide +kernel
theorem d_Hop_about_37 : decode b_Hop_about 37 = .ok (.aload_n 3, 1) := by decide +kernel
theorem d_Hop_about_38 : decode b_Hop_about 38 = .ok (.getfield 74, 3) := by decide +kernel
theorem d_Hop_about_41 : decode b_Hop_about 41 = .ok (.ireturn, 1) := by decide +kernel
theorem d_Hop_about_42 : decode b_Hop_about 42 = .ok (.aload_n 3, 1) := by decide +kernel
theorem d_Hop_about_43 : decode b_Hop_about 43 = .ok (.getfield 77, 3) := by decide +kernel
theorem d_Hop_about_46 : decode b_Hop_about 46 = .ok (.ireturn, 1) := by decide +kernel
theorem d_Hop_about_47 : decode b_Hop_about 47 = .ok (.new 80, 3) := by decide +kernel
theorem d_Hop_about_50 : decode b_Hop_about 50 = .ok (.dup, 1) := by decide +kernel
theorem d_Hop_about_51 : decode b_Hop_about 51 = .ok (.ldc 82, 2) := by decide +kernel
theorem d_Hop_about_53 : decode b_Hop_about 53 = .ok (.invokespecial 84, 3) := by decide +kernel
theorem d_Hop_about_56 : decode b_Hop_about 56 = .ok (.athrow, 1) := by decide +kernel
theorem d_Hop_home_0 : decode b_Hop_home 0 = .ok (.aload_n 0, 1) := by decide +kernel
theorem d_Hop_home_1 : decode b_Hop_home 1 = .ok (.iload_n 1, 1) := by decide +kernel
theorem d_Hop_home_2 : decode b_Hop_home 2 = .ok (.invokevirtual 36, 3) := by decide +kernel
theorem d_Hop_home_5 : decode b_Hop_home 5 = .ok (.iload_n 2, 1) := by decide +kernel
theorem d_Hop_home_6 : decode b_Hop_home 6 = .ok (.invokevirtual 85, 3) := by decide +kernel
theorem d_Hop_home_9 : decode b_Hop_home 9 = .ok (.ireturn, 1) := by decide +kernel
theorem d_Hop_distance_0 : decode b_Hop_distance 0 = .ok (.aload_n 0, 1) := by decide +kernel
theorem d_Hop_distance_1 : decode b_Hop_distance 1 = .ok (.iload_n 1, 1) := by decide +kernel
theorem d_Hop_distance_2 : decode b_Hop_distance 2 = .ok (.invokevirtual 36, 3) := by decide +kernel
theorem d_Hop_distance_5 : decode b_Hop_distance 5 = .ok (.astore_n 3, 1) := by decide +kernel
theorem d_Hop_distance_6 : decode b_Hop_distance 6 = .ok (.aload_n 0, 1) := by decide +kernel
theorem d_Hop_distance_7 : decode b_Hop_distance 7 = .ok (.aload_n 3, 1) := by decide +kernel
theorem d_Hop_distance_8 : decode b_Hop_distance 8 = .ok (.iload_n 2, 1) := by decide +kernel
theorem d_Hop_distance_9 : decode b_Hop_distance 9 = .ok (.invokevirtual 59, 3) := by decide +kernel
theorem d_Hop_distance_12 : decode b_Hop_distance 12 = .ok (.aload_n 3, 1) := by decide +kernel
theorem d_Hop_distance_13 : decode b_Hop_distance 13 = .ok (.getfield 74, 3) := by decide +kernel
theorem d_Hop_distance_16 : decode b_Hop_distance 16 = .ok (.isub, 1) := by decide +kernel
theorem d_Hop_distance_17 : decode b_Hop_distance 17 = .ok (.istore 4, 2) := by decide +kernel
theorem d_Hop_distance_19 : decode b_Hop_distance 19 = .ok (.aload_n 3, 1) := by decide +kernel
theorem d_Hop_distance_20 : decode b_Hop_distance 20 = .ok (.iload 4, 2) := by decide +kernel
theorem d_Hop_distance_22 : decode b_Hop_distance 22 = .ok (.aload_n 3, 1) := by decide +kernel
theorem d_Hop_distance_23 : decode b_Hop_distance 23 = .ok (.iload_n 2, 1) := by decide +kernel
theorem d_Hop_distance_24 : decode b_Hop_distance 24 = .ok (.invokevirtual 85, 3) := by decide +kernel
theorem d_Hop_distance_27 : decode b_Hop_distance 27 = .ok (.isub, 1) := by decide +kernel
theorem d_Hop_distance_28 : decode b_Hop_distance 28 = .ok (.invokevirtual 89, 3) := by decide +kernel
theorem d_Hop_distance_31 : decode b_Hop_distance 31 = .ok (.ireturn, 1) := by decide +kernel
theorem d_Hop_bits_0 : decode b_Hop_bits 0 = .ok (.aload_n 0, 1) := by decide +kernel
theorem d_Hop_bits_1 : decode b_Hop_bits 1 = .ok (.iload_n 1, 1) := by decide +kernel
theorem d_Hop_bits_2 : decode b_Hop_bits 2 = .ok (.invokevirtual 36, 3) := by decide +kernel
theorem d_Hop_bits_5 : decode b_Hop_bits 5 = .ok (.astore_n 3, 1) := by decide +kernel
theorem d_Hop_bits_6 : decode b_Hop_bits 6 = .ok (.aload_n 3, 1) := by decide +kernel
theorem d_Hop_bits_7 : decode b_Hop_bits 7 = .ok (.iload_n 2, 1) := by decide +kernel
theorem d_Hop_bits_8 : decode b_Hop_bits 8 = .ok (.invokestatic 92, 3) := by decide +kernel
theorem d_Hop_bits_11 : decode b_Hop_bits 11 = .ok (.iconst 0, 1) := by decide +kernel
theorem d_Hop_bits_12 : decode b_Hop_bits 12 = .ok (.istore 4, 2) := by decide +kernel
theorem d_Hop_bits_14 : decode b_Hop_bits 14 = .ok (.iconst 0, 1) := by decide +kernel
theorem d_Hop_bits_15 : decode b_Hop_bits 15 = .ok (.istore 5, 2) := by decide +kernel
theorem d_Hop_bits_17 : decode b_Hop_bits 17 = .ok (.iload 5, 2) := by decide +kernel
theorem d_Hop_bits_19 : decode b_Hop_bits 19 = .ok (.bipush 8, 2) := by decide +kernel
theorem d_Hop_bits_21 : decode b_Hop_bits 21 = .ok (.if_icmp .ge 29, 3) := by decide +kernel
theorem d_Hop_bits_24 : decode b_Hop_bits 24 = .ok (.aload_n 0, 1) := by decide +kernel
theorem d_Hop_bits_25 : decode b_Hop_bits 25 = .ok (.aload_n 3, 1) := by decide +kernel
theorem d_Hop_bits_26 : decode b_Hop_bits 26 = .ok (.iload_n 2, 1) := by decide +kernel
theorem d_Hop_bits_27 : decode b_Hop_bits 27 = .ok (.iload 5, 2) := by decide +kernel
theorem d_Hop_bits_29 : decode b_Hop_bits 29 = .ok (.invokevirtual 96, 3) := by decide +kernel
theorem d_Hop_bits_32 : decode b_Hop_bits 32 = .ok (.ifCond .eq 12, 3) := by decide +kernel
theorem d_Hop_bits_35 : decode b_Hop_bits 35 = .ok (.iload 4, 2) := by decide +kernel
theorem d_Hop_bits_37 : decode b_Hop_bits 37 = .ok (.iconst 1, 1) := by decide +kernel
theorem d_Hop_bits_38 : decode b_Hop_bits 38 = .ok (.iload 5, 2) := by decide +kernel
theorem d_Hop_bits_40 : decode b_Hop_bits 40 = .ok (.ishl, 1) := by decide +kernel
theorem d_Hop_bits_41 : decode b_Hop_bits 41 = .ok (.ior, 1) := by decide +kernel
theorem d_Hop_bits_42 : decode b_Hop_bits 42 = .ok (.istore 4, 2) := by decide +kernel
theorem d_Hop_bits_44 : decode b_Hop_bits 44 = .ok (.iinc 5 1, 3) := by decide +kernel
theorem d_Hop_bits_47 : decode b_Hop_bits 47 = .ok (.goto (-30), 3) := by decide +kernel
theorem d_Hop_bits_50 : decode b_Hop_bits 50 = .ok (.iload 4, 2) := by decide +kernel
theorem d_Hop_bits_52 : decode b_Hop_bits 52 = .ok (.ireturn, 1) := by decide +kernel
theorem d_Hop_next_0 : decode b_Hop_next 0 = .ok (.aload_n 0, 1) := by decide +kernel
theorem d_Hop_next_1 : decode b_Hop_next 1 = .ok (.iload_n 1, 1) := by decide +kernel
theorem d_Hop_next_2 : decode b_Hop_next 2 = .ok (.invokevirtual 36, 3) := by decide +kernel
theorem d_Hop_next_5 : decode b_Hop_next 5 = .ok (.astore_n 3, 1) := by decide +kernel
theorem d_Hop_next_6 : decode b_Hop_next 6 = .ok (.aload_n 3, 1) := by decide +kernel
theorem d_Hop_next_7 : decode b_Hop_next 7 = .ok (.iload_n 2, 1) := by decide +kernel
theorem d_Hop_next_8 : decode b_Hop_next 8 = .ok (.invokestatic 92, 3) := by decide +kernel
theorem d_Hop_next_11 : decode b_Hop_next 11 = .ok (.iload_n 2, 1) := by decide +kernel
theorem d_Hop_next_12 : decode b_Hop_next 12 = .ok (.istore 4, 2) := by decide +kernel
theorem d_Hop_next_14 : decode b_Hop_next 14 = .ok (.iload 4, 2) := by decide +kernel
theorem d_Hop_next_16 : decode b_Hop_next 16 = .ok (.aload_n 3, 1) := by decide +kernel
theorem d_Hop_next_17 : decode b_Hop_next 17 = .ok (.getfield 66, 3) := by decide +kernel
theorem d_Hop_next_20 : decode b_Hop_next 20 = .ok (.if_icmp .ge 26, 3) := by decide +kernel
theorem d_Hop_next_23 : decode b_Hop_next 23 = .ok (.aload_n 0, 1) := by decide +kernel
theorem d_Hop_next_24 : decode b_Hop_next 24 = .ok (.getfield 16, 3) := by decide +kernel
theorem d_Hop_next_27 : decode b_Hop_next 27 = .ok (.aload_n 3, 1) := by decide +kernel
theorem d_Hop_next_28 : decode b_Hop_next 28 = .ok (.iload 4, 2) := by decide +kernel
theorem d_Hop_next_30 : decode b_Hop_next 30 = .ok (.invokevirtual 99, 3) := by decide +kernel
theorem d_Hop_next_33 : decode b_Hop_next 33 = .ok (.baload, 1) := by decide +kernel
theorem d_Hop_next_34 : decode b_Hop_next 34 = .ok (.ifCond .eq 6, 3) := by decide +kernel
theorem d_Hop_next_37 : decode b_Hop_next 37 = .ok (.iload 4, 2) := by decide +kernel
theorem d_Hop_next_39 : decode b_Hop_next 39 = .ok (.ireturn, 1) := by decide +kernel
theorem d_Hop_next_40 : decode b_Hop_next 40 = .ok (.iinc 4 1, 3) := by decide +kernel
theorem d_Hop_next_43 : decode b_Hop_next 43 = .ok (.goto (-29), 3) := by decide +kernel
theorem d_Hop_next_46 : decode b_Hop_next 46 = .ok (.iconst (-1), 1) := by decide +kernel
theorem d_Hop_next_47 : decode b_Hop_next 47 = .ok (.ireturn, 1) := by decide +kernel
theorem d_Hop_key_0 : decode b_Hop_key 0 = .ok (.aload_n 0, 1) := by decide +kernel
theorem d_Hop_key_1 : decode b_Hop_key 1 = .ok (.iload_n 1, 1) := by decide +kernel
theorem d_Hop_key_2 : decode b_Hop_key 2 = .ok (.invokevirtual 36, 3) := by decide +kernel
theorem d_Hop_key_5 : decode b_Hop_key 5 = .ok (.astore_n 3, 1) := by decide +kernel
theorem d_Hop_key_6 : decode b_Hop_key 6 = .ok (.aload_n 3, 1) := by decide +kernel
theorem d_Hop_key_7 : decode b_Hop_key 7 = .ok (.iload_n 2, 1) := by decide +kernel
theorem d_Hop_key_8 : decode b_Hop_key 8 = .ok (.invokestatic 92, 3) := by decide +kernel
theorem d_Hop_key_11 : decode b_Hop_key 11 = .ok (.aload_n 3, 1) := by decide +kernel
theorem d_Hop_key_12 : decode b_Hop_key 12 = .ok (.iload_n 2, 1) := by decide +kernel
theorem d_Hop_key_13 : decode b_Hop_key 13 = .ok (.invokevirtual 99, 3) := by decide +kernel
theorem d_Hop_key_16 : decode b_Hop_key 16 = .ok (.istore 4, 2) := by decide +kernel
theorem d_Hop_key_18 : decode b_Hop_key 18 = .ok (.aload_n 0, 1) := by decide +kernel
theorem d_Hop_key_19 : decode b_Hop_key 19 = .ok (.getfield 16, 3) := by decide +kernel
theorem d_Hop_key_22 : decode b_Hop_key 22 = .ok (.iload 4, 2) := by decide +kernel
theorem d_Hop_key_24 : decode b_Hop_key 24 = .ok (.baload, 1) := by decide +kernel
theorem d_Hop_key_25 : decode b_Hop_key 25 = .ok (.ifCond .ne 13, 3) := by decide +kernel
theorem d_Hop_key_28 : decode b_Hop_key 28 = .ok (.new 102, 3) := by decide +kernel
theorem d_Hop_key_31 : decode b_Hop_key 31 = .ok (.dup, 1) := by decide +kernel
theorem d_Hop_key_32 : decode b_Hop_key 32 = .ok (.ldc 104, 2) := by decide +kernel
theorem d_Hop_key_34 : decode b_Hop_key 34 = .ok (.invokespecial 106, 3) := by decide +kernel
theorem d_Hop_key_37 : decode b_Hop_key 37 = .ok (.athrow, 1) := by decide +kernel
theorem d_Hop_key_38 : decode b_Hop_key 38 = .ok (.aload_n 0, 1) := by decide +kernel
theorem d_Hop_key_39 : decode b_Hop_key 39 = .ok (.getfield 9, 3) := by decide +kernel
theorem d_Hop_key_42 : decode b_Hop_key 42 = .ok (.iload 4, 2) := by decide +kernel
theorem d_Hop_key_44 : decode b_Hop_key 44 = .ok (.iaload, 1) := by decide +kernel
theorem d_Hop_key_45 : decode b_Hop_key 45 = .ok (.ireturn, 1) := by decide +kernel
theorem d_Hop_count_0 : decode b_Hop_count 0 = .ok (.iload_n 1, 1) := by decide +kernel
theorem d_Hop_count_1 : decode b_Hop_count 1 = .ok (.ifCond .lt 8, 3) := by decide +kernel
theorem d_Hop_count_4 : decode b_Hop_count 4 = .ok (.iload_n 1, 1) := by decide +kernel
theorem d_Hop_count_5 : decode b_Hop_count 5 = .ok (.iconst 3, 1) := by decide +kernel
theorem d_Hop_count_6 : decode b_Hop_count 6 = .ok (.if_icmp .lt 13, 3) := by decide +kernel
theorem d_Hop_count_9 : decode b_Hop_count 9 = .ok (.new 80, 3) := by decide +kernel
theorem d_Hop_count_12 : decode b_Hop_count 12 = .ok (.dup, 1) := by decide +kernel
theorem d_Hop_count_13 : decode b_Hop_count 13 = .ok (.ldc 107, 2) := by decide +kernel
theorem d_Hop_count_15 : decode b_Hop_count 15 = .ok (.invokespecial 84, 3) := by decide +kernel
theorem d_Hop_count_18 : decode b_Hop_count 18 = .ok (.athrow, 1) := by decide +kernel
theorem d_Hop_count_19 : decode b_Hop_count 19 = .ok (.aload_n 0, 1) := by decide +kernel
theorem d_Hop_count_20 : decode b_Hop_count 20 = .ok (.getfield 20, 3) := by decide +kernel
theorem d_Hop_count_23 : decode b_Hop_count 23 = .ok (.iload_n 1, 1) := by decide +kernel
theorem d_Hop_count_24 : decode b_Hop_count 24 = .ok (.iaload, 1) := by decide +kernel
theorem d_Hop_count_25 : decode b_Hop_count 25 = .ok (.ireturn, 1) := by decide +kernel
theorem d_Hop_partOf_0 : decode b_Hop_partOf 0 = .ok (.iload_n 1, 1) := by decide +kernel
theorem d_Hop_partOf_1 : decode b_Hop_partOf 1 = .ok (.ifCond .lt 8, 3) := by decide +kernel
theorem d_Hop_partOf_4 : decode b_Hop_partOf 4 = .ok (.iload_n 1, 1) := by decide +kernel
theorem d_Hop_partOf_5 : decode b_Hop_partOf 5 = .ok (.iconst 3, 1) := by decide +kernel
theorem d_Hop_partOf_6 : decode b_Hop_partOf 6 = .ok (.if_icmp .lt 13, 3) := by decide +kernel
theorem d_Hop_partOf_9 : decode b_Hop_partOf 9 = .ok (.new 109, 3) := by decide +kernel
theorem d_Hop_partOf_12 : decode b_Hop_partOf 12 = .ok (.dup, 1) := by decide +kernel
theorem d_Hop_partOf_13 : decode b_Hop_partOf 13 = .ok (.ldc 111, 2) := by decide +kernel
theorem d_Hop_partOf_15 : decode b_Hop_partOf 15 = .ok (.invokespecial 113, 3) := by decide +kernel
theorem d_Hop_partOf_18 : decode b_Hop_partOf 18 = .ok (.athrow, 1) := by decide +kernel
theorem d_Hop_partOf_19 : decode b_Hop_partOf 19 = .ok (.aload_n 0, 1) := by decide +kernel
theorem d_Hop_partOf_20 : decode b_Hop_partOf 20 = .ok (.getfield 25, 3) := by decide +kernel
theorem d_Hop_partOf_23 : decode b_Hop_partOf 23 = .ok (.iload_n 1, 1) := by decide +kernel
theorem d_Hop_partOf_24 : decode b_Hop_partOf 24 = .ok (.aaload, 1) := by decide +kernel
theorem d_Hop_partOf_25 : decode b_Hop_partOf 25 = .ok (.areturn, 1) := by decide +kernel
theorem d_Hop_requirePlace_0 : decode b_Hop_requirePlace 0 = .ok (.aload_n 0, 1) := by decide +kernel
theorem d_Hop_requirePlace_1 : decode b_Hop_requirePlace 1 = .ok (.iload_n 1, 1) := by decide +kernel
theorem d_Hop_requirePlace_2 : decode b_Hop_requirePlace 2 = .ok (.invokevirtual 114, 3) := by decide +kernel
theorem d_Hop_requirePlace_5 : decode b_Hop_requirePlace 5 = .ok (.ifCond .ne 13, 3) := by decide +kernel
theorem d_Hop_requirePlace_8 : decode b_Hop_requirePlace 8 = .ok (.new 80, 3) := by decide +kernel
theorem d_Hop_requirePlace_11 : decode b_Hop_requirePlace 11 = .ok (.dup, 1) := by decide +kernel
theorem d_Hop_requirePlace_12 : decode b_Hop_requirePlace 12 = .ok (.ldc 118, 2) := by decide +kernel
theorem d_Hop_requirePlace_14 : decode b_Hop_requirePlace 14 = .ok (.invokespecial 84, 3) := by decide +kernel
theorem d_Hop_requirePlace_17 : decode b_Hop_requirePlace 17 = .ok (.athrow, 1) := by decide +kernel
theorem d_Hop_requirePlace_18 : decode b_Hop_requirePlace 18 = .ok (.return_, 1) := by decide +kernel
theorem d_Hop_slotHolding_0 : decode b_Hop_slotHolding 0 = .ok (.aload_n 0, 1) := by decide +kernel
theorem d_Hop_slotHolding_1 : decode b_Hop_slotHolding 1 = .ok (.aload_n 1, 1) := by decide +kernel
theorem d_Hop_slotHolding_2 : decode b_Hop_slotHolding 2 = .ok (.iload_n 2, 1) := by decide +kernel
theorem d_Hop_slotHolding_3 : decode b_Hop_slotHolding 3 = .ok (.invokevirtual 40, 3) := by decide +kernel
theorem d_Hop_slotHolding_6 : decode b_Hop_slotHolding 6 = .ok (.istore_n 3, 1) := by decide +kernel
theorem d_Hop_slotHolding_7 : decode b_Hop_slotHolding 7 = .ok (.iload_n 3, 1) := by decide +kernel
theorem d_Hop_slotHolding_8 : decode b_Hop_slotHolding 8 = .ok (.iconst (-1), 1) := by decide +kernel
theorem d_Hop_slotHolding_9 : decode b_Hop_slotHolding 9 = .ok (.if_icmp .ne 13, 3) := by decide +kernel
theorem d_Hop_slotHolding_12 : decode b_Hop_slotHolding 12 = .ok (.new 102, 3) := by decide +kernel
theorem d_Hop_slotHolding_15 : decode b_Hop_slotHolding 15 = .ok (.dup, 1) := by decide +kernel
theorem d_Hop_slotHolding_16 : decode b_Hop_slotHolding 16 = .ok (.ldc 120, 2) := by decide +kernel
theorem d_Hop_slotHolding_18 : decode b_Hop_slotHolding 18 = .ok (.invokespecial 106, 3) := by decide +kernel
theorem d_Hop_slotHolding_21 : decode b_Hop_slotHolding 21 = .ok (.athrow, 1) := by decide +kernel
theorem d_Hop_slotHolding_22 : decode b_Hop_slotHolding 22 = .ok (.iload_n 3, 1) := by decide +kernel
theorem d_Hop_slotHolding_23 : decode b_Hop_slotHolding 23 = .ok (.ireturn, 1) := by decide +kernel
theorem d_Hop_slotOrNone_0 : decode b_Hop_slotOrNone 0 = .ok (.aload_n 1, 1) := by decide +kernel
theorem d_Hop_slotOrNone_1 : decode b_Hop_slotOrNone 1 = .ok (.iload_n 2, 1) := by decide +kernel
theorem d_Hop_slotOrNone_2 : decode b_Hop_slotOrNone 2 = .ok (.invokevirtual 85, 3) := by decide +kernel
theorem d_Hop_slotOrNone_5 : decode b_Hop_slotOrNone 5 = .ok (.istore_n 3, 1) := by decide +kernel
theorem d_Hop_slotOrNone_6 : decode b_Hop_slotOrNone 6 = .ok (.iconst 0, 1) := by decide +kernel
theorem d_Hop_slotOrNone_7 : decode b_Hop_slotOrNone 7 = .ok (.istore 4, 2) := by decide +kernel
theorem d_Hop_slotOrNone_9 : decode b_Hop_slotOrNone 9 = .ok (.iload 4, 2) := by decide +kernel
theorem d_Hop_slotOrNone_11 : decode b_Hop_slotOrNone 11 = .ok (.bipush 8, 2) := by decide +kernel
theorem d_Hop_slotOrNone_13 : decode b_Hop_slotOrNone 13 = .ok (.if_icmp .ge 43, 3) := by decide +kernel
theorem d_Hop_slotOrNone_16 : decode b_Hop_slotOrNone 16 = .ok (.aload_n 1, 1) := by decide +kernel
theorem d_Hop_slotOrNone_17 : decode b_Hop_slotOrNone 17 = .ok (.iload_n 3, 1) := by decide +kernel
theorem d_Hop_slotOrNone_18 : decode b_Hop_slotOrNone 18 = .ok (.iload 4, 2) := by decide +kernel
theorem d_Hop_slotOrNone_20 : decode b_Hop_slotOrNone 20 = .ok (.iadd, 1) := by decide +kernel
theorem d_Hop_slotOrNone_21 : decode b_Hop_slotOrNone 21 = .ok (.invokevirtual 99, 3) := by decide +kernel
theorem d_Hop_slotOrNone_24 : decode b_Hop_slotOrNone 24 = .ok (.istore 5, 2) := by decide +kernel
theorem d_Hop_slotOrNone_26 : decode b_Hop_slotOrNone 26 = .ok (.aload_n 0, 1) := by decide +kernel
theorem d_Hop_slotOrNone_27 : decode b_Hop_slotOrNone 27 = .ok (.getfield 16, 3) := by decide +kernel
theorem d_Hop_slotOrNone_30 : decode b_Hop_slotOrNone 30 = .ok (.iload 5, 2) := by decide +kernel
theorem d_Hop_slotOrNone_32 : decode b_Hop_slotOrNone 32 = .ok (.baload, 1) := by decide +kernel
theorem d_Hop_slotOrNone_33 : decode b_Hop_slotOrNone 33 = .ok (.ifCond .eq 17, 3) := by decide +kernel
theorem d_Hop_slotOrNone_36 : decode b_Hop_slotOrNone 36 = .ok (.aload_n 0, 1) := by decide +kernel
theorem d_Hop_slotOrNone_37 : decode b_Hop_slotOrNone 37 = .ok (.getfield 9, 3) := by decide +kernel
theorem d_Hop_slotOrNone_40 : decode b_Hop_slotOrNone 40 = .ok (.iload 5, 2) := by decide +kernel
theorem d_Hop_slotOrNone_42 : decode b_Hop_slotOrNone 42 = .ok (.iaload, 1) := by decide +kernel
theorem d_Hop_slotOrNone_43 : decode b_Hop_slotOrNone 43 = .ok (.iload_n 2, 1) := by decide +kernel
theorem d_Hop_slotOrNone_44 : decode b_Hop_slotOrNone 44 = .ok (.if_icmp .ne 6, 3) := by decide +kernel
theorem d_Hop_slotOrNone_47 : decode b_Hop_slotOrNone 47 = .ok (.iload 5, 2) := by decide +kernel
theorem d_Hop_slotOrNone_49 : decode b_Hop_slotOrNone 49 = .ok (.ireturn, 1) := by decide +kernel
theorem d_Hop_slotOrNone_50 : decode b_Hop_slotOrNone 50 = .ok (.iinc 4 1, 3) := by decide +kernel
theorem d_Hop_slotOrNone_53 : decode b_Hop_slotOrNone 53 = .ok (.goto (-44), 3) := by decide +kernel
theorem d_Hop_slotOrNone_56 : decode b_Hop_slotOrNone 56 = .ok (.iconst (-1), 1) := by decide +kernel
theorem d_Hop_slotOrNone_57 : decode b_Hop_slotOrNone 57 = .ok (.ireturn, 1) := by decide +kernel
theorem d_Hop_keysIn_0 : decode b_Hop_keysIn 0 = .ok (.iconst 0, 1) := by decide +kernel
theorem d_Hop_keysIn_1 : decode b_Hop_keysIn 1 = .ok (.istore_n 2, 1) := by decide +kernel
theorem d_Hop_keysIn_2 : decode b_Hop_keysIn 2 = .ok (.aload_n 1, 1) := by decide +kernel
theorem d_Hop_keysIn_3 : decode b_Hop_keysIn 3 = .ok (.getfield 74, 3) := by decide +kernel
theorem d_Hop_keysIn_6 : decode b_Hop_keysIn 6 = .ok (.istore_n 3, 1) := by decide +kernel
theorem d_Hop_keysIn_7 : decode b_Hop_keysIn 7 = .ok (.iload_n 3, 1) := by decide +kernel
theorem d_Hop_keysIn_8 : decode b_Hop_keysIn 8 = .ok (.aload_n 1, 1) := by decide +kernel
theorem d_Hop_keysIn_9 : decode b_Hop_keysIn 9 = .ok (.invokevirtual 122, 3) := by decide +kernel
theorem d_Hop_keysIn_12 : decode b_Hop_keysIn 12 = .ok (.if_icmp .ge 21, 3) := by decide +kernel
theorem d_Hop_keysIn_15 : decode b_Hop_keysIn 15 = .ok (.aload_n 0, 1) := by decide +kernel
theorem d_Hop_keysIn_16 : decode b_Hop_keysIn 16 = .ok (.getfield 16, 3) := by decide +kernel
theorem d_Hop_keysIn_19 : decode b_Hop_keysIn 19 = .ok (.iload_n 3, 1) := by decide +kernel
theorem d_Hop_keysIn_20 : decode b_Hop_keysIn 20 = .ok (.baload, 1) := by decide +kernel
theorem d_Hop_keysIn_21 : decode b_Hop_keysIn 21 = .ok (.ifCond .eq 6, 3) := by decide +kernel
theorem d_Hop_keysIn_24 : decode b_Hop_keysIn 24 = .ok (.iinc 2 1, 3) := by decide +kernel
theorem d_Hop_keysIn_27 : decode b_Hop_keysIn 27 = .ok (.iinc 3 1, 3) := by decide +kernel
theorem d_Hop_keysIn_30 : decode b_Hop_keysIn 30 = .ok (.goto (-23), 3) := by decide +kernel
theorem d_Hop_keysIn_33 : decode b_Hop_keysIn 33 = .ok (.iload_n 2, 1) := by decide +kernel
theorem d_Hop_keysIn_34 : decode b_Hop_keysIn 34 = .ok (.ireturn, 1) := by decide +kernel
theorem d_Hop_freeAll_0 : decode b_Hop_freeAll 0 = .ok (.aload_n 1, 1) := by decide +kernel
theorem d_Hop_freeAll_1 : decode b_Hop_freeAll 1 = .ok (.getfield 74, 3) := by decide +kernel
theorem d_Hop_freeAll_4 : decode b_Hop_freeAll 4 = .ok (.istore_n 2, 1) := by decide +kernel
theorem d_Hop_freeAll_5 : decode b_Hop_freeAll 5 = .ok (.iload_n 2, 1) := by decide +kernel
theorem d_Hop_freeAll_6 : decode b_Hop_freeAll 6 = .ok (.aload_n 1, 1) := by decide +kernel
theorem d_Hop_freeAll_7 : decode b_Hop_freeAll 7 = .ok (.invokevirtual 122, 3) := by decide +kernel
theorem d_Hop_freeAll_10 : decode b_Hop_freeAll 10 = .ok (.if_icmp .ge 16, 3) := by decide +kernel
theorem d_Hop_freeAll_13 : decode b_Hop_freeAll 13 = .ok (.aload_n 0, 1) := by decide +kernel
theorem d_Hop_freeAll_14 : decode b_Hop_freeAll 14 = .ok (.getfield 16, 3) := by decide +kernel
theorem d_Hop_freeAll_17 : decode b_Hop_freeAll 17 = .ok (.iload_n 2, 1) := by decide +kernel
theorem d_Hop_freeAll_18 : decode b_Hop_freeAll 18 = .ok (.iconst 0, 1) := by decide +kernel
theorem d_Hop_freeAll_19 : decode b_Hop_freeAll 19 = .ok (.bastore, 1) := by decide +kernel
theorem d_Hop_freeAll_20 : decode b_Hop_freeAll 20 = .ok (.iinc 2 1, 3) := by decide +kernel
theorem d_Hop_freeAll_23 : decode b_Hop_freeAll 23 = .ok (.goto (-18), 3) := by decide +kernel
theorem d_Hop_freeAll_26 : decode b_Hop_freeAll 26 = .ok (.return_, 1) := by decide +kernel
theorem d_Hop_isBitSet_0 : decode b_Hop_isBitSet 0 = .ok (.aload_n 1, 1) := by decide +kernel
theorem d_Hop_isBitSet_1 : decode b_Hop_isBitSet 1 = .ok (.iload_n 2, 1) := by decide +kernel
theorem d_Hop_isBitSet_2 : decode b_Hop_isBitSet 2 = .ok (.iload_n 3, 1) := by decide +kernel
theorem d_Hop_isBitSet_3 : decode b_Hop_isBitSet 3 = .ok (.iadd, 1) := by decide +kernel
theorem d_Hop_isBitSet_4 : decode b_Hop_isBitSet 4 = .ok (.invokevirtual 99, 3) := by decide +kernel
theorem d_Hop_isBitSet_7 : decode b_Hop_isBitSet 7 = .ok (.istore 4, 2) := by decide +kernel
theorem d_Hop_isBitSet_9 : decode b_Hop_isBitSet 9 = .ok (.aload_n 0, 1) := by decide +kernel
theorem d_Hop_isBitSet_10 : decode b_Hop_isBitSet 10 = .ok (.getfield 16, 3) := by decide +kernel
theorem d_Hop_isBitSet_13 : decode b_Hop_isBitSet 13 = .ok (.iload 4, 2) := by decide +kernel
theorem d_Hop_isBitSet_15 : decode b_Hop_isBitSet 15 = .ok (.baload, 1) := by decide +kernel
theorem d_Hop_isBitSet_16 : decode b_Hop_isBitSet 16 = .ok (.ifCond .eq 22, 3) := by decide +kernel
theorem d_Hop_isBitSet_19 : decode b_Hop_isBitSet 19 = .ok (.aload_n 1, 1) := by decide +kernel
theorem d_Hop_isBitSet_20 : decode b_Hop_isBitSet 20 = .ok (.aload_n 0, 1) := by decide +kernel
theorem d_Hop_isBitSet_21 : decode b_Hop_isBitSet 21 = .ok (.getfield 9, 3) := by decide +kernel
theorem d_Hop_isBitSet_24 : decode b_Hop_isBitSet 24 = .ok (.iload 4, 2) := by decide +kernel
theorem d_Hop_isBitSet_26 : decode b_Hop_isBitSet 26 = .ok (.iaload, 1) := by decide +kernel
theorem d_Hop_isBitSet_27 : decode b_Hop_isBitSet 27 = .ok (.invokevirtual 85, 3) := by decide +kernel
theorem d_Hop_isBitSet_30 : decode b_Hop_isBitSet 30 = .ok (.iload_n 2, 1) := by decide +kernel
theorem d_Hop_isBitSet_31 : decode b_Hop_isBitSet 31 = .ok (.if_icmp .ne 7, 3) := by decide +kernel
theorem d_Hop_isBitSet_34 : decode b_Hop_isBitSet 34 = .ok (.iconst 1, 1) := by decide +kernel
theorem d_Hop_isBitSet_35 : decode b_Hop_isBitSet 35 = .ok (.goto 4, 3) := by decide +kernel
theorem d_Hop_isBitSet_38 : decode b_Hop_isBitSet 38 = .ok (.iconst 0, 1) := by decide +kernel
theorem d_Hop_isBitSet_39 : decode b_Hop_isBitSet 39 = .ok (.ireturn, 1) := by decide +kernel
theorem d_Hop_insert_0 : decode b_Hop_insert 0 = .ok (.aload_n 1, 1) := by decide +kernel
theorem d_Hop_insert_1 : decode b_Hop_insert 1 = .ok (.iload_n 2, 1) := by decide +kernel
theorem d_Hop_insert_2 : decode b_Hop_insert 2 = .ok (.invokevirtual 85, 3) := by decide +kernel
theorem d_Hop_insert_5 : decode b_Hop_insert 5 = .ok (.istore 4, 2) := by decide +kernel
theorem d_Hop_insert_7 : decode b_Hop_insert 7 = .ok (.aload_n 0, 1) := by decide +kernel
theorem d_Hop_insert_8 : decode b_Hop_insert 8 = .ok (.aload_n 1, 1) := by decide +kernel
theorem d_Hop_insert_9 : decode b_Hop_insert 9 = .ok (.iload 4, 2) := by decide +kernel
theorem d_Hop_insert_11 : decode b_Hop_insert 11 = .ok (.invokevirtual 126, 3) := by decide +kernel
theorem d_Hop_insert_14 : decode b_Hop_insert 14 = .ok (.istore 5, 2) := by decide +kernel
theorem d_Hop_insert_16 : decode b_Hop_insert 16 = .ok (.iload 5, 2) := by decide +kernel
theorem d_Hop_insert_18 : decode b_Hop_insert 18 = .ok (.iconst (-1), 1) := by decide +kernel
theorem d_Hop_insert_19 : decode b_Hop_insert 19 = .ok (.if_icmp .ne 5, 3) := by decide +kernel
theorem d_Hop_insert_22 : decode b_Hop_insert 22 = .ok (.iconst 0, 1) := by decide +kernel
theorem d_Hop_insert_23 : decode b_Hop_insert 23 = .ok (.ireturn, 1) := by decide +kernel
theorem d_Hop_insert_24 : decode b_Hop_insert 24 = .ok (.iconst 0, 1) := by decide +kernel
theorem d_Hop_insert_25 : decode b_Hop_insert 25 = .ok (.istore 6, 2) := by decide +kernel
theorem d_Hop_insert_27 : decode b_Hop_insert 27 = .ok (.iload 6, 2) := by decide +kernel
theorem d_Hop_insert_29 : decode b_Hop_insert 29 = .ok (.aload_n 1, 1) := by decide +kernel
theorem d_Hop_insert_30 : decode b_Hop_insert 30 = .ok (.getfield 66, 3) := by decide +kernel
theorem d_Hop_insert_33 : decode b_Hop_insert 33 = .ok (.if_icmp .ge 42, 3) := by decide +kernel
theorem d_Hop_insert_36 : decode b_Hop_insert 36 = .ok (.iload 5, 2) := by decide +kernel
theorem d_Hop_insert_38 : decode b_Hop_insert 38 = .ok (.bipush 8, 2) := by decide +kernel
theorem d_Hop_insert_40 : decode b_Hop_insert 40 = .ok (.if_icmp .lt 35, 3) := by decide +kernel
theorem d_Hop_insert_43 : decode b_Hop_insert 43 = .ok (.aload_n 0, 1) := by decide +kernel
theorem d_Hop_insert_44 : decode b_Hop_insert 44 = .ok (.aload_n 1, 1) := by decide +kernel
theorem d_Hop_insert_45 : decode b_Hop_insert 45 = .ok (.iload 4, 2) := by decide +kernel
theorem d_Hop_insert_47 : decode b_Hop_insert 47 = .ok (.iload 5, 2) := by decide +kernel
theorem d_Hop_insert_49 : decode b_Hop_insert 49 = .ok (.iadd, 1) := by decide +kernel
theorem d_Hop_insert_50 : decode b_Hop_insert 50 = .ok (.invokevirtual 129, 3) := by decide +kernel
theorem d_Hop_insert_53 : decode b_Hop_insert 53 = .ok (.istore 7, 2) := by decide +kernel
theorem d_Hop_insert_55 : decode b_Hop_insert 55 = .ok (.iload 7, 2) := by decide +kernel
theorem d_Hop_insert_57 : decode b_Hop_insert 57 = .ok (.ifCond .ne 5, 3) := by decide +kernel
theorem d_Hop_insert_60 : decode b_Hop_insert 60 = .ok (.iconst 0, 1) := by decide +kernel
theorem d_Hop_insert_61 : decode b_Hop_insert 61 = .ok (.ireturn, 1) := by decide +kernel
theorem d_Hop_insert_62 : decode b_Hop_insert 62 = .ok (.iload 5, 2) := by decide +kernel
theorem d_Hop_insert_64 : decode b_Hop_insert 64 = .ok (.iload 7, 2) := by decide +kernel
theorem d_Hop_insert_66 : decode b_Hop_insert 66 = .ok (.isub, 1) := by decide +kernel
theorem d_Hop_insert_67 : decode b_Hop_insert 67 = .ok (.istore 5, 2) := by decide +kernel
theorem d_Hop_insert_69 : decode b_Hop_insert 69 = .ok (.iinc 6 1, 3) := by decide +kernel
theorem d_Hop_insert_72 : decode b_Hop_insert 72 = .ok (.goto (-45), 3) := by decide +kernel
theorem d_Hop_insert_75 : decode b_Hop_insert 75 = .ok (.aload_n 1, 1) := by decide +kernel
theorem d_Hop_insert_76 : decode b_Hop_insert 76 = .ok (.iload 4, 2) := by decide +kernel
theorem d_Hop_insert_78 : decode b_Hop_insert 78 = .ok (.iload 5, 2) := by decide +kernel
theorem d_Hop_insert_80 : decode b_Hop_insert 80 = .ok (.iadd, 1) := by decide +kernel
theorem d_Hop_insert_81 : decode b_Hop_insert 81 = .ok (.invokevirtual 99, 3) := by decide +kernel
theorem d_Hop_insert_84 : decode b_Hop_insert 84 = .ok (.istore 6, 2) := by decide +kernel
theorem d_Hop_insert_86 : decode b_Hop_insert 86 = .ok (.aload_n 0, 1) := by decide +kernel
theorem d_Hop_insert_87 : decode b_Hop_insert 87 = .ok (.getfield 9, 3) := by decide +kernel
theorem d_Hop_insert_90 : decode b_Hop_insert 90 = .ok (.iload 6, 2) := by decide +kernel
theorem d_Hop_insert_92 : decode b_Hop_insert 92 = .ok (.iload_n 2, 1) := by decide +kernel
theorem d_Hop_insert_93 : decode b_Hop_insert 93 = .ok (.iastore, 1) := by decide +kernel
theorem d_Hop_insert_94 : decode b_Hop_insert 94 = .ok (.aload_n 0, 1) := by decide +kernel
theorem d_Hop_insert_95 : decode b_Hop_insert 95 = .ok (.getfield 13, 3) := by decide +kernel
theorem d_Hop_insert_98 : decode b_Hop_insert 98 = .ok (.iload 6, 2) := by decide +kernel
theorem d_Hop_insert_100 : decode b_Hop_insert 100 = .ok (.iload_n 3, 1) := by decide +kernel
theorem d_Hop_insert_101 : decode b_Hop_insert 101 = .ok (.iastore, 1) := by decide +kernel
theorem d_Hop_insert_102 : decode b_Hop_insert 102 = .ok (.aload_n 0, 1) := by decide +kernel
theorem d_Hop_insert_103 : decode b_Hop_insert 103 = .ok (.getfield 16, 3) := by decide +kernel
theorem d_Hop_insert_106 : decode b_Hop_insert 106 = .ok (.iload 6, 2) := by decide +kernel
theorem d_Hop_insert_108 : decode b_Hop_insert 108 = .ok (.iconst 1, 1) := by decide +kernel
theorem d_Hop_insert_109 : decode b_Hop_insert 109 = .ok (.bastore, 1) := by decide +kernel
theorem d_Hop_insert_110 : decode b_Hop_insert 110 = .ok (.iconst 1, 1) := by decide +kernel
theorem d_Hop_insert_111 : decode b_Hop_insert 111 = .ok (.ireturn, 1) := by decide +kernel
theorem d_Hop_stepsToFree_0 : decode b_Hop_stepsToFree 0 = .ok (.iconst 0, 1) := by decide +kernel
theorem d_Hop_stepsToFree_1 : decode b_Hop_stepsToFree 1 = .ok (.istore_n 3, 1) := by decide +kernel
theorem d_Hop_stepsToFree_2 : decode b_Hop_stepsToFree 2 = .ok (.iload_n 3, 1) := by decide +kernel
theorem d_Hop_stepsToFree_3 : decode b_Hop_stepsToFree 3 = .ok (.aload_n 1, 1) := by decide +kernel
theorem d_Hop_stepsToFree_4 : decode b_Hop_stepsToFree 4 = .ok (.getfield 66, 3) := by decide +kernel
theorem d_Hop_stepsToFree_7 : decode b_Hop_stepsToFree 7 = .ok (.if_icmp .ge 26, 3) := by decide +kernel
theorem d_Hop_stepsToFree_10 : decode b_Hop_stepsToFree 10 = .ok (.aload_n 0, 1) := by decide +kernel
theorem d_Hop_stepsToFree_11 : decode b_Hop_stepsToFree 11 = .ok (.getfield 16, 3) := by decide +kernel
theorem d_Hop_stepsToFree_14 : decode b_Hop_stepsToFree 14 = .ok (.aload_n 1, 1) := by decide +kernel
theorem d_Hop_stepsToFree_15 : decode b_Hop_stepsToFree 15 = .ok (.iload_n 2, 1) := by decide +kernel
theorem d_Hop_stepsToFree_16 : decode b_Hop_stepsToFree 16 = .ok (.iload_n 3, 1) := by decide +kernel
theorem d_Hop_stepsToFree_17 : decode b_Hop_stepsToFree 17 = .ok (.iadd, 1) := by decide +kernel
theorem d_Hop_stepsToFree_18 : decode b_Hop_stepsToFree 18 = .ok (.invokevirtual 99, 3) := by decide +kernel
theorem d_Hop_stepsToFree_21 : decode b_Hop_stepsToFree 21 = .ok (.baload, 1) := by decide +kernel
theorem d_Hop_stepsToFree_22 : decode b_Hop_stepsToFree 22 = .ok (.ifCond .ne 5, 3) := by decide +kernel
theorem d_Hop_stepsToFree_25 : decode b_Hop_stepsToFree 25 = .ok (.iload_n 3, 1) := by decide +kernel
theorem d_Hop_stepsToFree_26 : decode b_Hop_stepsToFree 26 = .ok (.ireturn, 1) := by decide +kernel
theorem d_Hop_stepsToFree_27 : decode b_Hop_stepsToFree 27 = .ok (.iinc 3 1, 3) := by decide +kernel
theorem d_Hop_stepsToFree_30 : decode b_Hop_stepsToFree 30 = .ok (.goto (-28), 3) := by decide +kernel
theorem d_Hop_stepsToFree_33 : decode b_Hop_stepsToFree 33 = .ok (.iconst (-1), 1) := by decide +kernel
theorem d_Hop_stepsToFree_34 : decode b_Hop_stepsToFree 34 = .ok (.ireturn, 1) := by decide +kernel
theorem d_Hop_hopNearer_0 : decode b_Hop_hopNearer 0 = .ok (.bipush 7, 2) := by decide +kernel
theorem d_Hop_hopNearer_2 : decode b_Hop_hopNearer 2 = .ok (.istore_n 3, 1) := by decide +kernel
theorem d_Hop_hopNearer_3 : decode b_Hop_hopNearer 3 = .ok (.iload_n 3, 1) := by decide +kernel
theorem d_Hop_hopNearer_4 : decode b_Hop_hopNearer 4 = .ok (.iconst 1, 1) := by decide +kernel
theorem d_Hop_hopNearer_5 : decode b_Hop_hopNearer 5 = .ok (.if_icmp .lt 90, 3) := by decide +kernel
theorem d_Hop_hopNearer_8 : decode b_Hop_hopNearer 8 = .ok (.aload_n 1, 1) := by decide +kernel
theorem d_Hop_hopNearer_9 : decode b_Hop_hopNearer 9 = .ok (.iload_n 2, 1) := by decide +kernel
theorem d_Hop_hopNearer_10 : decode b_Hop_hopNearer 10 = .ok (.iload_n 3, 1) := by decide +kernel
theorem d_Hop_hopNearer_11 : decode b_Hop_hopNearer 11 = .ok (.isub, 1) := by decide +kernel
theorem d_Hop_hopNearer_12 : decode b_Hop_hopNearer 12 = .ok (.invokevirtual 89, 3) := by decide +kernel
theorem d_Hop_hopNearer_15 : decode b_Hop_hopNearer 15 = .ok (.istore 4, 2) := by decide +kernel
theorem d_Hop_hopNearer_17 : decode b_Hop_hopNearer 17 = .ok (.iconst 0, 1) := by decide +kernel
theorem d_Hop_hopNearer_18 : decode b_Hop_hopNearer 18 = .ok (.istore 5, 2) := by decide +kernel
theorem d_Hop_hopNearer_20 : decode b_Hop_hopNearer 20 = .ok (.iload 5, 2) := by decide +kernel
theorem d_Hop_hopNearer_22 : decode b_Hop_hopNearer 22 = .ok (.iload_n 3, 1) := by decide +kernel
theorem d_Hop_hopNearer_23 : decode b_Hop_hopNearer 23 = .ok (.if_icmp .ge 66, 3) := by decide +kernel
theorem d_Hop_hopNearer_26 : decode b_Hop_hopNearer 26 = .ok (.aload_n 0, 1) := by decide +kernel
theorem d_Hop_hopNearer_27 : decode b_Hop_hopNearer 27 = .ok (.aload_n 1, 1) := by decide +kernel
theorem d_Hop_hopNearer_28 : decode b_Hop_hopNearer 28 = .ok (.iload 4, 2) := by decide +kernel
theorem d_Hop_hopNearer_30 : decode b_Hop_hopNearer 30 = .ok (.iload 5, 2) := by decide +kernel
theorem d_Hop_hopNearer_32 : decode b_Hop_hopNearer 32 = .ok (.invokevirtual 96, 3) := by decide +kernel
theorem d_Hop_hopNearer_35 : decode b_Hop_hopNearer 35 = .ok (.ifCond .eq 48, 3) := by decide +kernel
theorem d_Hop_hopNearer_38 : decode b_Hop_hopNearer 38 = .ok (.aload_n 1, 1) := by decide +kernel
theorem d_Hop_hopNearer_39 : decode b_Hop_hopNearer 39 = .ok (.iload 4, 2) := by decide +kernel
theorem d_Hop_hopNearer_41 : decode b_Hop_hopNearer 41 = .ok (.iload 5, 2) := by decide +kernel
theorem d_Hop_hopNearer_43 : decode b_Hop_hopNearer 43 = .ok (.iadd, 1) := by decide +kernel
theorem d_Hop_hopNearer_44 : decode b_Hop_hopNearer 44 = .ok (.invokevirtual 99, 3) := by decide +kernel
theorem d_Hop_hopNearer_47 : decode b_Hop_hopNearer 47 = .ok (.istore 6, 2) := by decide +kernel
theorem d_Hop_hopNearer_49 : decode b_Hop_hopNearer 49 = .ok (.aload_n 0, 1) := by decide +kernel
theorem d_Hop_hopNearer_50 : decode b_Hop_hopNearer 50 = .ok (.iload 6, 2) := by decide +kernel
theorem d_Hop_hopNearer_52 : decode b_Hop_hopNearer 52 = .ok (.aload_n 1, 1) := by decide +kernel
theorem d_Hop_hopNearer_53 : decode b_Hop_hopNearer 53 = .ok (.iload_n 2, 1) := by decide +kernel
theorem d_Hop_hopNearer_54 : decode b_Hop_hopNearer 54 = .ok (.invokevirtual 99, 3) := by decide +kernel
theorem d_Hop_hopNearer_57 : decode b_Hop_hopNearer 57 = .ok (.invokevirtual 132, 3) := by decide +kernel
theorem d_Hop_hopNearer_60 : decode b_Hop_hopNearer 60 = .ok (.aload_n 0, 1) := by decide +kernel
theorem d_Hop_hopNearer_61 : decode b_Hop_hopNearer 61 = .ok (.getfield 16, 3) := by decide +kernel
theorem d_Hop_hopNearer_64 : decode b_Hop_hopNearer 64 = .ok (.iload 6, 2) := by decide +kernel
theorem d_Hop_hopNearer_66 : decode b_Hop_hopNearer 66 = .ok (.iconst 0, 1) := by decide +kernel
theorem d_Hop_hopNearer_67 : decode b_Hop_hopNearer 67 = .ok (.bastore, 1) := by decide +kernel
theorem d_Hop_hopNearer_68 : decode b_Hop_hopNearer 68 = .ok (.aload_n 0, 1) := by decide +kernel
theorem d_Hop_hopNearer_69 : decode b_Hop_hopNearer 69 = .ok (.getfield 20, 3) := by decide +kernel
theorem d_Hop_hopNearer_72 : decode b_Hop_hopNearer 72 = .ok (.iconst 0, 1) := by decide +kernel
theorem d_Hop_hopNearer_73 : decode b_Hop_hopNearer 73 = .ok (.dup2, 1) := by decide +kernel
theorem d_Hop_hopNearer_74 : decode b_Hop_hopNearer 74 = .ok (.iaload, 1) := by decide +kernel
theorem d_Hop_hopNearer_75 : decode b_Hop_hopNearer 75 = .ok (.iconst 1, 1) := by decide +kernel
theorem d_Hop_hopNearer_76 : decode b_Hop_hopNearer 76 = .ok (.iadd, 1) := by decide +kernel
theorem d_Hop_hopNearer_77 : decode b_Hop_hopNearer 77 = .ok (.iastore, 1) := by decide +kernel
theorem d_Hop_hopNearer_78 : decode b_Hop_hopNearer 78 = .ok (.iload_n 3, 1) := by decide +kernel
theorem d_Hop_hopNearer_79 : decode b_Hop_hopNearer 79 = .ok (.iload 5, 2) := by decide +kernel
theorem d_Hop_hopNearer_81 : decode b_Hop_hopNearer 81 = .ok (.isub, 1) := by decide +kernel
theorem d_Hop_hopNearer_82 : decode b_Hop_hopNearer 82 = .ok (.ireturn, 1) := by decide +kernel
theorem d_Hop_hopNearer_83 : decode b_Hop_hopNearer 83 = .ok (.iinc 5 1, 3) := by decide +kernel
theorem d_Hop_hopNearer_86 : decode b_Hop_hopNearer 86 = .ok (.goto (-66), 3) := by decide +kernel
theorem d_Hop_hopNearer_89 : decode b_Hop_hopNearer 89 = .ok (.iinc 3 (-1), 3) := by decide +kernel
theorem d_Hop_hopNearer_92 : decode b_Hop_hopNearer 92 = .ok (.goto (-89), 3) := by decide +kernel
theorem d_Hop_hopNearer_95 : decode b_Hop_hopNearer 95 = .ok (.iconst 0, 1) := by decide +kernel
theorem d_Hop_hopNearer_96 : decode b_Hop_hopNearer 96 = .ok (.ireturn, 1) := by decide +kernel
theorem d_Hop_copySlot_0 : decode b_Hop_copySlot 0 = .ok (.aload_n 0, 1) := by decide +kernel
theorem d_Hop_copySlot_1 : decode b_Hop_copySlot 1 = .ok (.getfield 9, 3) := by decide +kernel
theorem d_Hop_copySlot_4 : decode b_Hop_copySlot 4 = .ok (.iload_n 2, 1) := by decide +kernel
theorem d_Hop_copySlot_5 : decode b_Hop_copySlot 5 = .ok (.aload_n 0, 1) := by decide +kernel
theorem d_Hop_copySlot_6 : decode b_Hop_copySlot 6 = .ok (.getfield 9, 3) := by decide +kernel
theorem d_Hop_copySlot_9 : decode b_Hop_copySlot 9 = .ok (.iload_n 1, 1) := by decide +kernel
theorem d_Hop_copySlot_10 : decode b_Hop_copySlot 10 = .ok (.iaload, 1) := by decide +kernel
theorem d_Hop_copySlot_11 : decode b_Hop_copySlot 11 = .ok (.iastore, 1) := by decide +kernel
theorem d_Hop_copySlot_12 : decode b_Hop_copySlot 12 = .ok (.aload_n 0, 1) := by decide +kernel
theorem d_Hop_copySlot_13 : decode b_Hop_copySlot 13 = .ok (.getfield 13, 3) := by decide +kernel
theorem d_Hop_copySlot_16 : decode b_Hop_copySlot 16 = .ok (.iload_n 2, 1) := by decide +kernel
theorem d_Hop_copySlot_17 : decode b_Hop_copySlot 17 = .ok (.aload_n 0, 1) := by decide +kernel
theorem d_Hop_copySlot_18 : decode b_Hop_copySlot 18 = .ok (.getfield 13, 3) := by decide +kernel
theorem d_Hop_copySlot_21 : decode b_Hop_copySlot 21 = .ok (.iload_n 1, 1) := by decide +kernel
theorem d_Hop_copySlot_22 : decode b_Hop_copySlot 22 = .ok (.iaload, 1) := by decide +kernel
theorem d_Hop_copySlot_23 : decode b_Hop_copySlot 23 = .ok (.iastore, 1) := by decide +kernel
theorem d_Hop_copySlot_24 : decode b_Hop_copySlot 24 = .ok (.aload_n 0, 1) := by decide +kernel
theorem d_Hop_copySlot_25 : decode b_Hop_copySlot 25 = .ok (.getfield 16, 3) := by decide +kernel
theorem d_Hop_copySlot_28 : decode b_Hop_copySlot 28 = .ok (.iload_n 2, 1) := by decide +kernel
theorem d_Hop_copySlot_29 : decode b_Hop_copySlot 29 = .ok (.aload_n 0, 1) := by decide +kernel
theorem d_Hop_copySlot_30 : decode b_Hop_copySlot 30 = .ok (.getfield 16, 3) := by decide +kernel
theorem d_Hop_copySlot_33 : decode b_Hop_copySlot 33 = .ok (.iload_n 1, 1) := by decide +kernel
theorem d_Hop_copySlot_34 : decode b_Hop_copySlot 34 = .ok (.baload, 1) := by decide +kernel
theorem d_Hop_copySlot_35 : decode b_Hop_copySlot 35 = .ok (.bastore, 1) := by decide +kernel
theorem d_Hop_copySlot_36 : decode b_Hop_copySlot 36 = .ok (.return_, 1) := by decide +kernel
theorem d_Hop_growWith_0 : decode b_Hop_growWith 0 = .ok (.aload_n 0, 1) := by decide +kernel
theorem d_Hop_growWith_1 : decode b_Hop_growWith 1 = .ok (.getfield 25, 3) := by decide +kernel
theorem d_Hop_growWith_4 : decode b_Hop_growWith 4 = .ok (.iload_n 1, 1) := by decide +kernel
theorem d_Hop_growWith_5 : decode b_Hop_growWith 5 = .ok (.aaload, 1) := by decide +kernel
theorem d_Hop_growWith_6 : decode b_Hop_growWith 6 = .ok (.astore 4, 2) := by decide +kernel
theorem d_Hop_growWith_8 : decode b_Hop_growWith 8 = .ok (.aload_n 0, 1) := by decide +kernel
theorem d_Hop_growWith_9 : decode b_Hop_growWith 9 = .ok (.getfield 32, 3) := by decide +kernel
theorem d_Hop_growWith_12 : decode b_Hop_growWith 12 = .ok (.astore 5, 2) := by decide +kernel
theorem d_Hop_growWith_14 : decode b_Hop_growWith 14 = .ok (.aload_n 0, 1) := by decide +kernel
theorem d_Hop_growWith_15 : decode b_Hop_growWith 15 = .ok (.invokevirtual 136, 3) := by decide +kernel
theorem d_Hop_growWith_18 : decode b_Hop_growWith 18 = .ok (.istore 6, 2) := by decide +kernel
theorem d_Hop_growWith_20 : decode b_Hop_growWith 20 = .ok (.aload 4, 2) := by decide +kernel
theorem d_Hop_growWith_22 : decode b_Hop_growWith 22 = .ok (.getfield 77, 3) := by decide +kernel
theorem d_Hop_growWith_25 : decode b_Hop_growWith 25 = .ok (.istore 7, 2) := by decide +kernel
theorem d_Hop_growWith_27 : decode b_Hop_growWith 27 = .ok (.iconst 1, 1) := by decide +kernel
theorem d_Hop_growWith_28 : decode b_Hop_growWith 28 = .ok (.istore 8, 2) := by decide +kernel
theorem d_Hop_growWith_30 : decode b_Hop_growWith 30 = .ok (.iload 8, 2) := by decide +kernel
theorem d_Hop_growWith_32 : decode b_Hop_growWith 32 = .ok (.iconst 4, 1) := by decide +kernel
theorem d_Hop_growWith_33 : decode b_Hop_growWith 33 = .ok (.if_icmp .gt 98, 3) := by decide +kernel
theorem d_Hop_growWith_36 : decode b_Hop_growWith 36 = .ok (.aload 4, 2) := by decide +kernel
theorem d_Hop_growWith_38 : decode b_Hop_growWith 38 = .ok (.getfield 66, 3) := by decide +kernel
theorem d_Hop_growWith_41 : decode b_Hop_growWith 41 = .ok (.iload 8, 2) := by decide +kernel
theorem d_Hop_growWith_43 : decode b_Hop_growWith 43 = .ok (.ishl, 1) := by decide +kernel
theorem d_Hop_growWith_44 : decode b_Hop_growWith 44 = .ok (.istore 9, 2) := by decide +kernel
theorem d_Hop_growWith_46 : decode b_Hop_growWith 46 = .ok (.iload 9, 2) := by decide +kernel
theorem d_Hop_growWith_48 : decode b_Hop_growWith 48 = .ok (.sipush 128, 3) := by decide +kernel
theorem d_Hop_growWith_51 : decode b_Hop_growWith 51 = .ok (.if_icmp .gt 14, 3) := by decide +kernel
theorem d_Hop_growWith_54 : decode b_Hop_growWith 54 = .ok (.iload 6, 2) := by decide +kernel
theorem d_Hop_growWith_56 : decode b_Hop_growWith 56 = .ok (.iload 9, 2) := by decide +kernel
theorem d_Hop_growWith_58 : decode b_Hop_growWith 58 = .ok (.iadd, 1) := by decide +kernel
theorem d_Hop_growWith_59 : decode b_Hop_growWith 59 = .ok (.sipush 256, 3) := by decide +kernel
theorem d_Hop_growWith_62 : decode b_Hop_growWith 62 = .ok (.if_icmp .le 5, 3) := by decide +kernel
theorem d_Hop_growWith_65 : decode b_Hop_growWith 65 = .ok (.iconst 0, 1) := by decide +kernel
theorem d_Hop_growWith_66 : decode b_Hop_growWith 66 = .ok (.ireturn, 1) := by decide +kernel
theorem d_Hop_growWith_67 : decode b_Hop_growWith 67 = .ok (.iload 7, 2) := by decide +kernel
theorem d_Hop_growWith_69 : decode b_Hop_growWith 69 = .ok (.ldc 139, 2) := by decide +kernel
theorem d_Hop_growWith_71 : decode b_Hop_growWith 71 = .ok (.imul, 1) := by decide +kernel
theorem d_Hop_growWith_72 : decode b_Hop_growWith 72 = .ok (.ldc 140, 2) := by decide +kernel
theorem d_Hop_growWith_74 : decode b_Hop_growWith 74 = .ok (.iadd, 1) := by decide +kernel
theorem d_Hop_growWith_75 : decode b_Hop_growWith 75 = .ok (.istore 7, 2) := by decide +kernel
theorem d_Hop_growWith_77 : decode b_Hop_growWith 77 = .ok (.aload_n 0, 1) := by decide +kernel
theorem d_Hop_growWith_78 : decode b_Hop_growWith 78 = .ok (.aload 5, 2) := by decide +kernel
theorem d_Hop_growWith_80 : decode b_Hop_growWith 80 = .ok (.iload 9, 2) := by decide +kernel
theorem d_Hop_growWith_82 : decode b_Hop_growWith 82 = .ok (.iload 7, 2) := by decide +kernel
theorem d_Hop_growWith_84 : decode b_Hop_growWith 84 = .ok (.invokevirtual 141, 3) := by decide +kernel
theorem d_Hop_growWith_87 : decode b_Hop_growWith 87 = .ok (.aload_n 0, 1) := by decide +kernel
theorem d_Hop_growWith_88 : decode b_Hop_growWith 88 = .ok (.aload 4, 2) := by decide +kernel
theorem d_Hop_growWith_90 : decode b_Hop_growWith 90 = .ok (.aload 5, 2) := by decide +kernel
theorem d_Hop_growWith_92 : decode b_Hop_growWith 92 = .ok (.invokevirtual 145, 3) := by decide +kernel
theorem d_Hop_growWith_95 : decode b_Hop_growWith 95 = .ok (.ifCond .eq 30, 3) := by decide +kernel
theorem d_Hop_growWith_98 : decode b_Hop_growWith 98 = .ok (.aload_n 0, 1) := by decide +kernel
theorem d_Hop_growWith_99 : decode b_Hop_growWith 99 = .ok (.aload 5, 2) := by decide +kernel
theorem d_Hop_growWith_101 : decode b_Hop_growWith 101 = .ok (.iload_n 2, 1) := by decide +kernel
theorem d_Hop_growWith_102 : decode b_Hop_growWith 102 = .ok (.iload_n 3, 1) := by decide +kernel
theorem d_Hop_growWith_103 : decode b_Hop_growWith 103 = .ok (.invokevirtual 44, 3) := by decide +kernel
theorem d_Hop_growWith_106 : decode b_Hop_growWith 106 = .ok (.ifCond .eq 19, 3) := by decide +kernel
theorem d_Hop_growWith_109 : decode b_Hop_growWith 109 = .ok (.aload_n 0, 1) := by decide +kernel
theorem d_Hop_growWith_110 : decode b_Hop_growWith 110 = .ok (.getfield 25, 3) := by decide +kernel
theorem d_Hop_growWith_113 : decode b_Hop_growWith 113 = .ok (.iload_n 1, 1) := by decide +kernel
theorem d_Hop_growWith_114 : decode b_Hop_growWith 114 = .ok (.aload 5, 2) := by decide +kernel
theorem d_Hop_growWith_116 : decode b_Hop_growWith 116 = .ok (.aastore, 1) := by decide +kernel
theorem d_Hop_growWith_117 : decode b_Hop_growWith 117 = .ok (.aload_n 0, 1) := by decide +kernel
theorem d_Hop_growWith_118 : decode b_Hop_growWith 118 = .ok (.aload 4, 2) := by decide +kernel
theorem d_Hop_growWith_120 : decode b_Hop_growWith 120 = .ok (.putfield 32, 3) := by decide +kernel
theorem d_Hop_growWith_123 : decode b_Hop_growWith 123 = .ok (.iconst 1, 1) := by decide +kernel
theorem d_Hop_growWith_124 : decode b_Hop_growWith 124 = .ok (.ireturn, 1) := by decide +kernel
theorem d_Hop_growWith_125 : decode b_Hop_growWith 125 = .ok (.iinc 8 1, 3) := by decide +kernel
theorem d_Hop_growWith_128 : decode b_Hop_growWith 128 = .ok (.goto (-98), 3) := by decide +kernel
theorem d_Hop_growWith_131 : decode b_Hop_growWith 131 = .ok (.iconst 0, 1) := by decide +kernel
theorem d_Hop_growWith_132 : decode b_Hop_growWith 132 = .ok (.ireturn, 1) := by decide +kernel
theorem d_Hop_sumOfCapacities_0 : decode b_Hop_sumOfCapacities 0 = .ok (.iconst 0, 1) := by decide +kernel
theorem d_Hop_sumOfCapacities_1 : decode b_Hop_sumOfCapacities 1 = .ok (.istore_n 1, 1) := by decide +kernel
theorem d_Hop_sumOfCapacities_2 : decode b_Hop_sumOfCapacities 2 = .ok (.iconst 0, 1) := by decide +kernel
theorem d_Hop_sumOfCapacities_3 : decode b_Hop_sumOfCapacities 3 = .ok (.istore_n 2, 1) := by decide +kernel
theorem d_Hop_sumOfCapacities_4 : decode b_Hop_sumOfCapacities 4 = .ok (.iload_n 2, 1) := by decide +kernel
theorem d_Hop_sumOfCapacities_5 : decode b_Hop_sumOfCapacities 5 = .ok (.iconst 3, 1) := by decide +kernel
theorem d_Hop_sumOfCapacities_6 : decode b_Hop_sumOfCapacities 6 = .ok (.if_icmp .ge 21, 3) := by decide +kernel
theorem d_Hop_sumOfCapacities_9 : decode b_Hop_sumOfCapacities 9 = .ok (.iload_n 1, 1) := by decide +kernel
theorem d_Hop_sumOfCapacities_10 : decode b_Hop_sumOfCapacities 10 = .ok (.aload_n 0, 1) := by decide +kernel
theorem d_Hop_sumOfCapacities_11 : decode b_Hop_sumOfCapacities 11 = .ok (.getfield 25, 3) := by decide +kernel
theorem d_Hop_sumOfCapacities_14 : decode b_Hop_sumOfCapacities 14 = .ok (.iload_n 2, 1) := by decide +kernel
theorem d_Hop_sumOfCapacities_15 : decode b_Hop_sumOfCapacities 15 = .ok (.aaload, 1) := by decide +kernel
theorem d_Hop_sumOfCapacities_16 : decode b_Hop_sumOfCapacities 16 = .ok (.getfield 66, 3) := by decide +kernel
theorem d_Hop_sumOfCapacities_19 : decode b_Hop_sumOfCapacities 19 = .ok (.iadd, 1) := by decide +kernel
theorem d_Hop_sumOfCapacities_20 : decode b_Hop_sumOfCapacities 20 = .ok (.istore_n 1, 1) := by decide +kernel
theorem d_Hop_sumOfCapacities_21 : decode b_Hop_sumOfCapacities 21 = .ok (.iinc 2 1, 3) := by decide +kernel
theorem d_Hop_sumOfCapacities_24 : decode b_Hop_sumOfCapacities 24 = .ok (.goto (-20), 3) := by decide +kernel
theorem d_Hop_sumOfCapacities_27 : decode b_Hop_sumOfCapacities 27 = .ok (.iload_n 1, 1) := by decide +kernel
theorem d_Hop_sumOfCapacities_28 : decode b_Hop_sumOfCapacities 28 = .ok (.ireturn, 1) := by decide +kernel
theorem d_Hop_layOut_0 : decode b_Hop_layOut 0 = .ok (.aload_n 0, 1) := by decide +kernel
theorem d_Hop_layOut_1 : decode b_Hop_layOut 1 = .ok (.invokevirtual 149, 3) := by decide +kernel
theorem d_Hop_layOut_4 : decode b_Hop_layOut 4 = .ok (.iload_n 2, 1) := by decide +kernel
theorem d_Hop_layOut_5 : decode b_Hop_layOut 5 = .ok (.iadd, 1) := by decide +kernel
theorem d_Hop_layOut_6 : decode b_Hop_layOut 6 = .ok (.sipush 256, 3) := by decide +kernel
theorem d_Hop_layOut_9 : decode b_Hop_layOut 9 = .ok (.if_icmp .le 7, 3) := by decide +kernel
theorem d_Hop_layOut_12 : decode b_Hop_layOut 12 = .ok (.aload_n 0, 1) := by decide +kernel
theorem d_Hop_layOut_13 : decode b_Hop_layOut 13 = .ok (.invokevirtual 152, 3) := by decide +kernel
theorem d_Hop_layOut_16 : decode b_Hop_layOut 16 = .ok (.aload_n 1, 1) := by decide +kernel
theorem d_Hop_layOut_17 : decode b_Hop_layOut 17 = .ok (.aload_n 0, 1) := by decide +kernel
theorem d_Hop_layOut_18 : decode b_Hop_layOut 18 = .ok (.invokevirtual 149, 3) := by decide +kernel
theorem d_Hop_layOut_21 : decode b_Hop_layOut 21 = .ok (.putfield 74, 3) := by decide +kernel
theorem d_Hop_layOut_24 : decode b_Hop_layOut 24 = .ok (.aload_n 1, 1) := by decide +kernel
theorem d_Hop_layOut_25 : decode b_Hop_layOut 25 = .ok (.iload_n 2, 1) := by decide +kernel
theorem d_Hop_layOut_26 : decode b_Hop_layOut 26 = .ok (.putfield 66, 3) := by decide +kernel
theorem d_Hop_layOut_29 : decode b_Hop_layOut 29 = .ok (.aload_n 1, 1) := by decide +kernel
theorem d_Hop_layOut_30 : decode b_Hop_layOut 30 = .ok (.iload_n 3, 1) := by decide +kernel
theorem d_Hop_layOut_31 : decode b_Hop_layOut 31 = .ok (.putfield 77, 3) := by decide +kernel
theorem d_Hop_layOut_34 : decode b_Hop_layOut 34 = .ok (.aload_n 0, 1) := by decide +kernel
theorem d_Hop_layOut_35 : decode b_Hop_layOut 35 = .ok (.aload_n 1, 1) := by decide +kernel
theorem d_Hop_layOut_36 : decode b_Hop_layOut 36 = .ok (.invokevirtual 70, 3) := by decide +kernel
theorem d_Hop_layOut_39 : decode b_Hop_layOut 39 = .ok (.aload_n 0, 1) := by decide +kernel
theorem d_Hop_layOut_40 : decode b_Hop_layOut 40 = .ok (.getfield 20, 3) := by decide +kernel
theorem d_Hop_layOut_43 : decode b_Hop_layOut 43 = .ok (.iconst 1, 1) := by decide +kernel
theorem d_Hop_layOut_44 : decode b_Hop_layOut 44 = .ok (.dup2, 1) := by decide +kernel
theorem d_Hop_layOut_45 : decode b_Hop_layOut 45 = .ok (.iaload, 1) := by decide +kernel
theorem d_Hop_layOut_46 : decode b_Hop_layOut 46 = .ok (.iconst 1, 1) := by decide +kernel
theorem d_Hop_layOut_47 : decode b_Hop_layOut 47 = .ok (.iadd, 1) := by decide +kernel
theorem d_Hop_layOut_48 : decode b_Hop_layOut 48 = .ok (.iastore, 1) := by decide +kernel
theorem d_Hop_layOut_49 : decode b_Hop_layOut 49 = .ok (.return_, 1) := by decide +kernel
theorem d_Hop_lastEnd_0 : decode b_Hop_lastEnd 0 = .ok (.iconst 0, 1) := by decide +kernel
theorem d_Hop_lastEnd_1 : decode b_Hop_lastEnd 1 = .ok (.istore_n 1, 1) := by decide +kernel
theorem d_Hop_lastEnd_2 : decode b_Hop_lastEnd 2 = .ok (.iconst 0, 1) := by decide +kernel
theorem d_Hop_lastEnd_3 : decode b_Hop_lastEnd 3 = .ok (.istore_n 2, 1) := by decide +kernel
theorem d_Hop_lastEnd_4 : decode b_Hop_lastEnd 4 = .ok (.iload_n 2, 1) := by decide +kernel
theorem d_Hop_lastEnd_5 : decode b_Hop_lastEnd 5 = .ok (.iconst 3, 1) := by decide +kernel
theorem d_Hop_lastEnd_6 : decode b_Hop_lastEnd 6 = .ok (.if_icmp .ge 23, 3) := by decide +kernel
theorem d_Hop_lastEnd_9 : decode b_Hop_lastEnd 9 = .ok (.iload_n 1, 1) := by decide +kernel
theorem d_Hop_lastEnd_10 : decode b_Hop_lastEnd 10 = .ok (.aload_n 0, 1) := by decide +kernel
theorem d_Hop_lastEnd_11 : decode b_Hop_lastEnd 11 = .ok (.getfield 25, 3) := by decide +kernel
theorem d_Hop_lastEnd_14 : decode b_Hop_lastEnd 14 = .ok (.iload_n 2, 1) := by decide +kernel
theorem d_Hop_lastEnd_15 : decode b_Hop_lastEnd 15 = .ok (.aaload, 1) := by decide +kernel
theorem d_Hop_lastEnd_16 : decode b_Hop_lastEnd 16 = .ok (.invokevirtual 122, 3) := by decide +kernel
theorem d_Hop_lastEnd_19 : decode b_Hop_lastEnd 19 = .ok (.invokestatic 155, 3) := by decide +kernel
theorem d_Hop_lastEnd_22 : decode b_Hop_lastEnd 22 = .ok (.istore_n 1, 1) := by decide +kernel
theorem d_Hop_lastEnd_23 : decode b_Hop_lastEnd 23 = .ok (.iinc 2 1, 3) := by decide +kernel
theorem d_Hop_lastEnd_26 : decode b_Hop_lastEnd 26 = .ok (.goto (-22), 3) := by decide +kernel
theorem d_Hop_lastEnd_29 : decode b_Hop_lastEnd 29 = .ok (.iload_n 1, 1) := by decide +kernel
theorem d_Hop_lastEnd_30 : decode b_Hop_lastEnd 30 = .ok (.ireturn, 1) := by decide +kernel
theorem d_Hop_pushTogether_0 : decode b_Hop_pushTogether 0 = .ok (.iconst 0, 1) := by decide +kernel
theorem d_Hop_pushTogether_1 : decode b_Hop_pushTogether 1 = .ok (.istore_n 1, 1) := by decide +kernel
theorem d_Hop_pushTogether_2 : decode b_Hop_pushTogether 2 = .ok (.iconst 0, 1) := by decide +kernel
theorem d_Hop_pushTogether_3 : decode b_Hop_pushTogether 3 = .ok (.istore_n 2, 1) := by decide +kernel
theorem d_Hop_pushTogether_4 : decode b_Hop_pushTogether 4 = .ok (.iload_n 2, 1) := by decide +kernel
theorem d_Hop_pushTogether_5 : decode b_Hop_pushTogether 5 = .ok (.iconst 3, 1) := by decide +kernel
theorem d_Hop_pushTogether_6 : decode b_Hop_pushTogether 6 = .ok (.if_icmp .ge 30, 3) := by decide +kernel
theorem d_Hop_pushTogether_9 : decode b_Hop_pushTogether 9 = .ok (.aload_n 0, 1) := by decide +kernel
theorem d_Hop_pushTogether_10 : decode b_Hop_pushTogether 10 = .ok (.iload_n 1, 1) := by decide +kernel
theorem d_Hop_pushTogether_11 : decode b_Hop_pushTogether 11 = .ok (.invokevirtual 161, 3) := by decide +kernel
theorem d_Hop_pushTogether_14 : decode b_Hop_pushTogether 14 = .ok (.astore_n 3, 1) := by decide +kernel
theorem d_Hop_pushTogether_15 : decode b_Hop_pushTogether 15 = .ok (.aload_n 3, 1) := by decide +kernel
theorem d_Hop_pushTogether_16 : decode b_Hop_pushTogether 16 = .ok (.ifnull 14, 3) := by decide +kernel
theorem d_Hop_pushTogether_19 : decode b_Hop_pushTogether 19 = .ok (.aload_n 0, 1) := by decide +kernel
theorem d_Hop_pushTogether_20 : decode b_Hop_pushTogether 20 = .ok (.aload_n 3, 1) := by decide +kernel
theorem d_Hop_pushTogether_21 : decode b_Hop_pushTogether 21 = .ok (.iload_n 1, 1) := by decide +kernel
theorem d_Hop_pushTogether_22 : decode b_Hop_pushTogether 22 = .ok (.invokevirtual 164, 3) := by decide +kernel
theorem d_Hop_pushTogether_25 : decode b_Hop_pushTogether 25 = .ok (.aload_n 3, 1) := by decide +kernel
theorem d_Hop_pushTogether_26 : decode b_Hop_pushTogether 26 = .ok (.invokevirtual 122, 3) := by decide +kernel
theorem d_Hop_pushTogether_29 : decode b_Hop_pushTogether 29 = .ok (.istore_n 1, 1) := by decide +kernel
theorem d_Hop_pushTogether_30 : decode b_Hop_pushTogether 30 = .ok (.iinc 2 1, 3) := by decide +kernel
theorem d_Hop_pushTogether_33 : decode b_Hop_pushTogether 33 = .ok (.goto (-29), 3) := by decide +kernel
theorem d_Hop_pushTogether_36 : decode b_Hop_pushTogether 36 = .ok (.aload_n 0, 1) := by decide +kernel
theorem d_Hop_pushTogether_37 : decode b_Hop_pushTogether 37 = .ok (.getfield 20, 3) := by decide +kernel
theorem d_Hop_pushTogether_40 : decode b_Hop_pushTogether 40 = .ok (.iconst 2, 1) := by decide +kernel
theorem d_Hop_pushTogether_41 : decode b_Hop_pushTogether 41 = .ok (.dup2, 1) := by decide +kernel
theorem d_Hop_pushTogether_42 : decode b_Hop_pushTogether 42 = .ok (.iaload, 1) := by decide +kernel
theorem d_Hop_pushTogether_43 : decode b_Hop_pushTogether 43 = .ok (.iconst 1, 1) := by decide +kernel
theorem d_Hop_pushTogether_44 : decode b_Hop_pushTogether 44 = .ok (.iadd, 1) := by decide +kernel
theorem d_Hop_pushTogether_45 : decode b_Hop_pushTogether 45 = .ok (.iastore, 1) := by decide +kernel
theorem d_Hop_pushTogether_46 : decode b_Hop_pushTogether 46 = .ok (.return_, 1) := by decide +kernel
theorem d_Hop_lowestFrom_0 : decode b_Hop_lowestFrom 0 = .ok (.aconst_null, 1) := by decide +kernel
theorem d_Hop_lowestFrom_1 : decode b_Hop_lowestFrom 1 = .ok (.astore_n 2, 1) := by decide +kernel
theorem d_Hop_lowestFrom_2 : decode b_Hop_lowestFrom 2 = .ok (.iconst 0, 1) := by decide +kernel
theorem d_Hop_lowestFrom_3 : decode b_Hop_lowestFrom 3 = .ok (.istore_n 3, 1) := by decide +kernel
theorem d_Hop_lowestFrom_4 : decode b_Hop_lowestFrom 4 = .ok (.iload_n 3, 1) := by decide +kernel
theorem d_Hop_lowestFrom_5 : decode b_Hop_lowestFrom 5 = .ok (.iconst 3, 1) := by decide +kernel
theorem d_Hop_lowestFrom_6 : decode b_Hop_lowestFrom 6 = .ok (.if_icmp .ge 45, 3) := by decide +kernel
theorem d_Hop_lowestFrom_9 : decode b_Hop_lowestFrom 9 = .ok (.aload_n 0, 1) := by decide +kernel
theorem d_Hop_lowestFrom_10 : decode b_Hop_lowestFrom 10 = .ok (.getfield 25, 3) := by decide +kernel
theorem d_Hop_lowestFrom_13 : decode b_Hop_lowestFrom 13 = .ok (.iload_n 3, 1) := by decide +kernel
theorem d_Hop_lowestFrom_14 : decode b_Hop_lowestFrom 14 = .ok (.aaload, 1) := by decide +kernel
theorem d_Hop_lowestFrom_15 : decode b_Hop_lowestFrom 15 = .ok (.astore 4, 2) := by decide +kernel
theorem d_Hop_lowestFrom_17 : decode b_Hop_lowestFrom 17 = .ok (.aload 4, 2) := by decide +kernel
theorem d_Hop_lowestFrom_19 : decode b_Hop_lowestFrom 19 = .ok (.getfield 74, 3) := by decide +kernel
theorem d_Hop_lowestFrom_22 : decode b_Hop_lowestFrom 22 = .ok (.iload_n 1, 1) := by decide +kernel
theorem d_Hop_lowestFrom_23 : decode b_Hop_lowestFrom 23 = .ok (.if_icmp .lt 22, 3) := by decide +kernel
theorem d_Hop_lowestFrom_26 : decode b_Hop_lowestFrom 26 = .ok (.aload_n 2, 1) := by decide +kernel
theorem d_Hop_lowestFrom_27 : decode b_Hop_lowestFrom 27 = .ok (.ifnull 15, 3) := by decide +kernel
theorem d_Hop_lowestFrom_30 : decode b_Hop_lowestFrom 30 = .ok (.aload 4, 2) := by decide +kernel
theorem d_Hop_lowestFrom_32 : decode b_Hop_lowestFrom 32 = .ok (.getfield 74, 3) := by decide +kernel
theorem d_Hop_lowestFrom_35 : decode b_Hop_lowestFrom 35 = .ok (.aload_n 2, 1) := by decide +kernel
theorem d_Hop_lowestFrom_36 : decode b_Hop_lowestFrom 36 = .ok (.getfield 74, 3) := by decide +kernel
theorem d_Hop_lowestFrom_39 : decode b_Hop_lowestFrom 39 = .ok (.if_icmp .ge 6, 3) := by decide +kernel
theorem d_Hop_lowestFrom_42 : decode b_Hop_lowestFrom 42 = .ok (.aload 4, 2) := by decide +kernel
theorem d_Hop_lowestFrom_44 : decode b_Hop_lowestFrom 44 = .ok (.astore_n 2, 1) := by decide +kernel
theorem d_Hop_lowestFrom_45 : decode b_Hop_lowestFrom 45 = .ok (.iinc 3 1, 3) := by decide +kernel
theorem d_Hop_lowestFrom_48 : decode b_Hop_lowestFrom 48 = .ok (.goto (-44), 3) := by decide +kernel
theorem d_Hop_lowestFrom_51 : decode b_Hop_lowestFrom 51 = .ok (.aload_n 2, 1) := by decide +kernel
theorem d_Hop_lowestFrom_52 : decode b_Hop_lowestFrom 52 = .ok (.areturn, 1) := by decide +kernel
theorem d_Hop_moveDown_0 : decode b_Hop_moveDown 0 = .ok (.iconst 0, 1) := by decide +kernel
theorem d_Hop_moveDown_1 : decode b_Hop_moveDown 1 = .ok (.istore_n 3, 1) := by decide +kernel
theorem d_Hop_moveDown_2 : decode b_Hop_moveDown 2 = .ok (.iload_n 3, 1) := by decide +kernel
theorem d_Hop_moveDown_3 : decode b_Hop_moveDown 3 = .ok (.aload_n 1, 1) := by decide +kernel
theorem d_Hop_moveDown_4 : decode b_Hop_moveDown 4 = .ok (.getfield 66, 3) := by decide +kernel
theorem d_Hop_moveDown_7 : decode b_Hop_moveDown 7 = .ok (.if_icmp .ge 22, 3) := by decide +kernel
theorem d_Hop_moveDown_10 : decode b_Hop_moveDown 10 = .ok (.aload_n 0, 1) := by decide +kernel
theorem d_Hop_moveDown_11 : decode b_Hop_moveDown 11 = .ok (.aload_n 1, 1) := by decide +kernel
theorem d_Hop_moveDown_12 : decode b_Hop_moveDown 12 = .ok (.getfield 74, 3) := by decide +kernel
theorem d_Hop_moveDown_15 : decode b_Hop_moveDown 15 = .ok (.iload_n 3, 1) := by decide +kernel
theorem d_Hop_moveDown_16 : decode b_Hop_moveDown 16 = .ok (.iadd, 1) := by decide +kernel
theorem d_Hop_moveDown_17 : decode b_Hop_moveDown 17 = .ok (.iload_n 2, 1) := by decide +kernel
theorem d_Hop_moveDown_18 : decode b_Hop_moveDown 18 = .ok (.iload_n 3, 1) := by decide +kernel
theorem d_Hop_moveDown_19 : decode b_Hop_moveDown 19 = .ok (.iadd, 1) := by decide +kernel
theorem d_Hop_moveDown_20 : decode b_Hop_moveDown 20 = .ok (.invokevirtual 132, 3) := by decide +kernel
theorem d_Hop_moveDown_23 : decode b_Hop_moveDown 23 = .ok (.iinc 3 1, 3) := by decide +kernel
theorem d_Hop_moveDown_26 : decode b_Hop_moveDown 26 = .ok (.goto (-24), 3) := by decide +kernel
theorem d_Hop_moveDown_29 : decode b_Hop_moveDown 29 = .ok (.aload_n 1, 1) := by decide +kernel
theorem d_Hop_moveDown_30 : decode b_Hop_moveDown 30 = .ok (.iload_n 2, 1) := by decide +kernel
theorem d_Hop_moveDown_31 : decode b_Hop_moveDown 31 = .ok (.putfield 74, 3) := by decide +kernel
theorem d_Hop_moveDown_34 : decode b_Hop_moveDown 34 = .ok (.return_, 1) := by decide +kernel
theorem d_Hop_insertAnew_0 : decode b_Hop_insertAnew 0 = .ok (.aload_n 1, 1) := by decide +kernel
theorem d_Hop_insertAnew_1 : decode b_Hop_insertAnew 1 = .ok (.getfield 74, 3) := by decide +kernel
theorem d_Hop_insertAnew_4 : decode b_Hop_insertAnew 4 = .ok (.istore_n 3, 1) := by decide +kernel
theorem d_Hop_insertAnew_5 : decode b_Hop_insertAnew 5 = .ok (.iload_n 3, 1) := by decide +kernel
theorem d_Hop_insertAnew_6 : decode b_Hop_insertAnew 6 = .ok (.aload_n 1, 1) := by decide +kernel
theorem d_Hop_insertAnew_7 : decode b_Hop_insertAnew 7 = .ok (.invokevirtual 122, 3) := by decide +kernel
theorem d_Hop_insertAnew_10 : decode b_Hop_insertAnew 10 = .ok (.if_icmp .ge 40, 3) := by decide +kernel
theorem d_Hop_insertAnew_13 : decode b_Hop_insertAnew 13 = .ok (.aload_n 0, 1) := by decide +kernel
theorem d_Hop_insertAnew_14 : decode b_Hop_insertAnew 14 = .ok (.getfield 16, 3) := by decide +kernel
theorem d_Hop_insertAnew_17 : decode b_Hop_insertAnew 17 = .ok (.iload_n 3, 1) := by decide +kernel
theorem d_Hop_insertAnew_18 : decode b_Hop_insertAnew 18 = .ok (.baload, 1) := by decide +kernel
theorem d_Hop_insertAnew_19 : decode b_Hop_insertAnew 19 = .ok (.ifCond .eq 25, 3) := by decide +kernel
theorem d_Hop_insertAnew_22 : decode b_Hop_insertAnew 22 = .ok (.aload_n 0, 1) := by decide +kernel
theorem d_Hop_insertAnew_23 : decode b_Hop_insertAnew 23 = .ok (.aload_n 2, 1) := by decide +kernel
theorem d_Hop_insertAnew_24 : decode b_Hop_insertAnew 24 = .ok (.aload_n 0, 1) := by decide +kernel
theorem d_Hop_insertAnew_25 : decode b_Hop_insertAnew 25 = .ok (.getfield 9, 3) := by decide +kernel
theorem d_Hop_insertAnew_28 : decode b_Hop_insertAnew 28 = .ok (.iload_n 3, 1) := by decide +kernel
theorem d_Hop_insertAnew_29 : decode b_Hop_insertAnew 29 = .ok (.iaload, 1) := by decide +kernel
theorem d_Hop_insertAnew_30 : decode b_Hop_insertAnew 30 = .ok (.aload_n 0, 1) := by decide +kernel
theorem d_Hop_insertAnew_31 : decode b_Hop_insertAnew 31 = .ok (.getfield 13, 3) := by decide +kernel
theorem d_Hop_insertAnew_34 : decode b_Hop_insertAnew 34 = .ok (.iload_n 3, 1) := by decide +kernel
theorem d_Hop_insertAnew_35 : decode b_Hop_insertAnew 35 = .ok (.iaload, 1) := by decide +kernel
theorem d_Hop_insertAnew_36 : decode b_Hop_insertAnew 36 = .ok (.invokevirtual 44, 3) := by decide +kernel
theorem d_Hop_insertAnew_39 : decode b_Hop_insertAnew 39 = .ok (.ifCond .ne 5, 3) := by decide +kernel
theorem d_Hop_insertAnew_42 : decode b_Hop_insertAnew 42 = .ok (.iconst 0, 1) := by decide +kernel
theorem d_Hop_insertAnew_43 : decode b_Hop_insertAnew 43 = .ok (.ireturn, 1) := by decide +kernel
theorem d_Hop_insertAnew_44 : decode b_Hop_insertAnew 44 = .ok (.iinc 3 1, 3) := by decide +kernel
theorem d_Hop_insertAnew_47 : decode b_Hop_insertAnew 47 = .ok (.goto (-42), 3) := by decide +kernel
theorem d_Hop_insertAnew_50 : decode b_Hop_insertAnew 50 = .ok (.iconst 1, 1) := by decide +kernel
theorem d_Hop_insertAnew_51 : decode b_Hop_insertAnew 51 = .ok (.ireturn, 1) := by decide +kernel
