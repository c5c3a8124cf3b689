theorem dX12_init_0 : decode cX12_init 0 = .ok (.aload_n 0, 1) := by decide +kernel
theorem dX12_init_1 : decode cX12_init 1 = .ok (.invokespecial 3, 3) := by decide +kernel
theorem dX12_init_4 : decode cX12_init 4 = .ok (.aload_n 0, 1) := by decide +kernel
theorem dX12_init_5 : decode cX12_init 5 = .ok (.sipush 1496, 3) := by decide +kernel
theorem dX12_init_8 : decode cX12_init 8 = .ok (.newarray .int, 2) := by decide +kernel
theorem dX12_init_10 : decode cX12_init 10 = .ok (.putfield 9, 3) := by decide +kernel
theorem dX12_init_13 : decode cX12_init 13 = .ok (.aload_n 0, 1) := by decide +kernel
theorem dX12_init_14 : decode cX12_init 14 = .ok (.sipush 1496, 3) := by decide +kernel
theorem dX12_init_17 : decode cX12_init 17 = .ok (.newarray .int, 2) := by decide +kernel
theorem dX12_init_19 : decode cX12_init 19 = .ok (.putfield 13, 3) := by decide +kernel
theorem dX12_init_22 : decode cX12_init 22 = .ok (.aload_n 0, 1) := by decide +kernel
theorem dX12_init_23 : decode cX12_init 23 = .ok (.sipush 1496, 3) := by decide +kernel
theorem dX12_init_26 : decode cX12_init 26 = .ok (.newarray .int, 2) := by decide +kernel
theorem dX12_init_28 : decode cX12_init 28 = .ok (.putfield 16, 3) := by decide +kernel
theorem dX12_init_31 : decode cX12_init 31 = .ok (.aload_n 0, 1) := by decide +kernel
theorem dX12_init_32 : decode cX12_init 32 = .ok (.sipush 1496, 3) := by decide +kernel
theorem dX12_init_35 : decode cX12_init 35 = .ok (.newarray .int, 2) := by decide +kernel
theorem dX12_init_37 : decode cX12_init 37 = .ok (.putfield 19, 3) := by decide +kernel
theorem dX12_init_40 : decode cX12_init 40 = .ok (.aload_n 0, 1) := by decide +kernel
theorem dX12_init_41 : decode cX12_init 41 = .ok (.sipush 11968, 3) := by decide +kernel
theorem dX12_init_44 : decode cX12_init 44 = .ok (.newarray .int, 2) := by decide +kernel
theorem dX12_init_46 : decode cX12_init 46 = .ok (.putfield 22, 3) := by decide +kernel
theorem dX12_init_49 : decode cX12_init 49 = .ok (.aload_n 0, 1) := by decide +kernel
theorem dX12_init_50 : decode cX12_init 50 = .ok (.bipush 8, 2) := by decide +kernel
theorem dX12_init_52 : decode cX12_init 52 = .ok (.newarray .int, 2) := by decide +kernel
theorem dX12_init_54 : decode cX12_init 54 = .ok (.putfield 25, 3) := by decide +kernel
theorem dX12_init_57 : decode cX12_init 57 = .ok (.aload_n 0, 1) := by decide +kernel
theorem dX12_init_58 : decode cX12_init 58 = .ok (.bipush 30, 2) := by decide +kernel
theorem dX12_init_60 : decode cX12_init 60 = .ok (.newarray .char, 2) := by decide +kernel
theorem dX12_init_62 : decode cX12_init 62 = .ok (.putfield 28, 3) := by decide +kernel
theorem dX12_init_65 : decode cX12_init 65 = .ok (.aload_n 0, 1) := by decide +kernel
theorem dX12_init_66 : decode cX12_init 66 = .ok (.bipush 60, 2) := by decide +kernel
theorem dX12_init_68 : decode cX12_init 68 = .ok (.newarray .char, 2) := by decide +kernel
theorem dX12_init_70 : decode cX12_init 70 = .ok (.putfield 32, 3) := by decide +kernel
theorem dX12_init_73 : decode cX12_init 73 = .ok (.aload_n 0, 1) := by decide +kernel
theorem dX12_init_74 : decode cX12_init 74 = .ok (.iconst (-1), 1) := by decide +kernel
theorem dX12_init_75 : decode cX12_init 75 = .ok (.putfield 35, 3) := by decide +kernel
theorem dX12_init_78 : decode cX12_init 78 = .ok (.aload_n 0, 1) := by decide +kernel
theorem dX12_init_79 : decode cX12_init 79 = .ok (.iconst (-1), 1) := by decide +kernel
theorem dX12_init_80 : decode cX12_init 80 = .ok (.putfield 39, 3) := by decide +kernel
theorem dX12_init_83 : decode cX12_init 83 = .ok (.aload_n 0, 1) := by decide +kernel
theorem dX12_init_84 : decode cX12_init 84 = .ok (.sipush 240, 3) := by decide +kernel
theorem dX12_init_87 : decode cX12_init 87 = .ok (.newarray .int, 2) := by decide +kernel
theorem dX12_init_89 : decode cX12_init 89 = .ok (.putfield 42, 3) := by decide +kernel
theorem dX12_init_92 : decode cX12_init 92 = .ok (.return_, 1) := by decide +kernel
theorem dX12_thrown_0 : decode cX12_thrown 0 = .ok (.aload_n 0, 1) := by decide +kernel
theorem dX12_thrown_1 : decode cX12_thrown 1 = .ok (.getfield 45, 3) := by decide +kernel
theorem dX12_thrown_4 : decode cX12_thrown 4 = .ok (.ireturn, 1) := by decide +kernel
theorem dX12_in_0 : decode cX12_in 0 = .ok (.iload_n 0, 1) := by decide +kernel
theorem dX12_in_1 : decode cX12_in 1 = .ok (.iload_n 1, 1) := by decide +kernel
theorem dX12_in_2 : decode cX12_in 2 = .ok (.if_icmp .lt 12, 3) := by decide +kernel
theorem dX12_in_5 : decode cX12_in 5 = .ok (.iload_n 0, 1) := by decide +kernel
theorem dX12_in_6 : decode cX12_in 6 = .ok (.iload_n 2, 1) := by decide +kernel
theorem dX12_in_7 : decode cX12_in 7 = .ok (.if_icmp .gt 7, 3) := by decide +kernel
theorem dX12_in_10 : decode cX12_in 10 = .ok (.iconst 1, 1) := by decide +kernel
theorem dX12_in_11 : decode cX12_in 11 = .ok (.goto 4, 3) := by decide +kernel
theorem dX12_in_14 : decode cX12_in 14 = .ok (.iconst 0, 1) := by decide +kernel
theorem dX12_in_15 : decode cX12_in 15 = .ok (.ireturn, 1) := by decide +kernel
theorem dX12_keep_0 : decode cX12_keep 0 = .ok (.aload_n 0, 1) := by decide +kernel
theorem dX12_keep_1 : decode cX12_keep 1 = .ok (.iconst 0, 1) := by decide +kernel
theorem dX12_keep_2 : decode cX12_keep 2 = .ok (.putfield 45, 3) := by decide +kernel
theorem dX12_keep_5 : decode cX12_keep 5 = .ok (.aload_n 0, 1) := by decide +kernel
theorem dX12_keep_6 : decode cX12_keep 6 = .ok (.getfield 9, 3) := by decide +kernel
theorem dX12_keep_9 : decode cX12_keep 9 = .ok (.iconst 0, 1) := by decide +kernel
theorem dX12_keep_10 : decode cX12_keep 10 = .ok (.aload_n 0, 1) := by decide +kernel
theorem dX12_keep_11 : decode cX12_keep 11 = .ok (.getfield 13, 3) := by decide +kernel
theorem dX12_keep_14 : decode cX12_keep 14 = .ok (.iconst 0, 1) := by decide +kernel
theorem dX12_keep_15 : decode cX12_keep 15 = .ok (.sipush 1496, 3) := by decide +kernel
theorem dX12_keep_18 : decode cX12_keep 18 = .ok (.invokestatic 48, 3) := by decide +kernel
theorem dX12_keep_21 : decode cX12_keep 21 = .ok (.return_, 1) := by decide +kernel
theorem dX12_ends_0 : decode cX12_ends 0 = .ok (.aload_n 0, 1) := by decide +kernel
theorem dX12_ends_1 : decode cX12_ends 1 = .ok (.getfield 45, 3) := by decide +kernel
theorem dX12_ends_4 : decode cX12_ends 4 = .ok (.ifCond .le 21, 3) := by decide +kernel
theorem dX12_ends_7 : decode cX12_ends 7 = .ok (.aload_n 0, 1) := by decide +kernel
theorem dX12_ends_8 : decode cX12_ends 8 = .ok (.getfield 13, 3) := by decide +kernel
theorem dX12_ends_11 : decode cX12_ends 11 = .ok (.iconst 0, 1) := by decide +kernel
theorem dX12_ends_12 : decode cX12_ends 12 = .ok (.aload_n 0, 1) := by decide +kernel
theorem dX12_ends_13 : decode cX12_ends 13 = .ok (.getfield 9, 3) := by decide +kernel
theorem dX12_ends_16 : decode cX12_ends 16 = .ok (.iconst 0, 1) := by decide +kernel
theorem dX12_ends_17 : decode cX12_ends 17 = .ok (.sipush 1496, 3) := by decide +kernel
theorem dX12_ends_20 : decode cX12_ends 20 = .ok (.invokestatic 48, 3) := by decide +kernel
theorem dX12_ends_23 : decode cX12_ends 23 = .ok (.iconst 0, 1) := by decide +kernel
theorem dX12_ends_24 : decode cX12_ends 24 = .ok (.ireturn, 1) := by decide +kernel
theorem dX12_ends_25 : decode cX12_ends 25 = .ok (.aload_n 0, 1) := by decide +kernel
theorem dX12_ends_26 : decode cX12_ends 26 = .ok (.getfield 54, 3) := by decide +kernel
theorem dX12_ends_29 : decode cX12_ends 29 = .ok (.bipush 8, 2) := by decide +kernel
theorem dX12_ends_31 : decode cX12_ends 31 = .ok (.if_icmp .ne 31, 3) := by decide +kernel
theorem dX12_ends_34 : decode cX12_ends 34 = .ok (.aload_n 0, 1) := by decide +kernel
theorem dX12_ends_35 : decode cX12_ends 35 = .ok (.getfield 22, 3) := by decide +kernel
theorem dX12_ends_38 : decode cX12_ends 38 = .ok (.sipush 1496, 3) := by decide +kernel
theorem dX12_ends_41 : decode cX12_ends 41 = .ok (.aload_n 0, 1) := by decide +kernel
theorem dX12_ends_42 : decode cX12_ends 42 = .ok (.getfield 22, 3) := by decide +kernel
theorem dX12_ends_45 : decode cX12_ends 45 = .ok (.iconst 0, 1) := by decide +kernel
theorem dX12_ends_46 : decode cX12_ends 46 = .ok (.sipush 10472, 3) := by decide +kernel
theorem dX12_ends_49 : decode cX12_ends 49 = .ok (.invokestatic 48, 3) := by decide +kernel
theorem dX12_ends_52 : decode cX12_ends 52 = .ok (.aload_n 0, 1) := by decide +kernel
theorem dX12_ends_53 : decode cX12_ends 53 = .ok (.dup, 1) := by decide +kernel
theorem dX12_ends_54 : decode cX12_ends 54 = .ok (.getfield 54, 3) := by decide +kernel
theorem dX12_ends_57 : decode cX12_ends 57 = .ok (.iconst 1, 1) := by decide +kernel
theorem dX12_ends_58 : decode cX12_ends 58 = .ok (.isub, 1) := by decide +kernel
theorem dX12_ends_59 : decode cX12_ends 59 = .ok (.putfield 54, 3) := by decide +kernel
theorem dX12_ends_62 : decode cX12_ends 62 = .ok (.aload_n 0, 1) := by decide +kernel
theorem dX12_ends_63 : decode cX12_ends 63 = .ok (.getfield 13, 3) := by decide +kernel
theorem dX12_ends_66 : decode cX12_ends 66 = .ok (.iconst 0, 1) := by decide +kernel
theorem dX12_ends_67 : decode cX12_ends 67 = .ok (.aload_n 0, 1) := by decide +kernel
theorem dX12_ends_68 : decode cX12_ends 68 = .ok (.getfield 22, 3) := by decide +kernel
theorem dX12_ends_71 : decode cX12_ends 71 = .ok (.sipush 1496, 3) := by decide +kernel
theorem dX12_ends_74 : decode cX12_ends 74 = .ok (.aload_n 0, 1) := by decide +kernel
theorem dX12_ends_75 : decode cX12_ends 75 = .ok (.getfield 54, 3) := by decide +kernel
theorem dX12_ends_78 : decode cX12_ends 78 = .ok (.imul, 1) := by decide +kernel
theorem dX12_ends_79 : decode cX12_ends 79 = .ok (.sipush 1496, 3) := by decide +kernel
theorem dX12_ends_82 : decode cX12_ends 82 = .ok (.invokestatic 48, 3) := by decide +kernel
theorem dX12_ends_85 : decode cX12_ends 85 = .ok (.aload_n 0, 1) := by decide +kernel
theorem dX12_ends_86 : decode cX12_ends 86 = .ok (.dup, 1) := by decide +kernel
theorem dX12_ends_87 : decode cX12_ends 87 = .ok (.getfield 54, 3) := by decide +kernel
theorem dX12_ends_90 : decode cX12_ends 90 = .ok (.iconst 1, 1) := by decide +kernel
theorem dX12_ends_91 : decode cX12_ends 91 = .ok (.iadd, 1) := by decide +kernel
theorem dX12_ends_92 : decode cX12_ends 92 = .ok (.putfield 54, 3) := by decide +kernel
theorem dX12_ends_95 : decode cX12_ends 95 = .ok (.iload_n 1, 1) := by decide +kernel
theorem dX12_ends_96 : decode cX12_ends 96 = .ok (.ireturn, 1) := by decide +kernel
theorem dX12_fails_0 : decode cX12_fails 0 = .ok (.aload_n 0, 1) := by decide +kernel
theorem dX12_fails_1 : decode cX12_fails 1 = .ok (.iload_n 1, 1) := by decide +kernel
theorem dX12_fails_2 : decode cX12_fails 2 = .ok (.putfield 45, 3) := by decide +kernel
theorem dX12_fails_5 : decode cX12_fails 5 = .ok (.iconst 0, 1) := by decide +kernel
theorem dX12_fails_6 : decode cX12_fails 6 = .ok (.ireturn, 1) := by decide +kernel
theorem dX12_isThere_0 : decode cX12_isThere 0 = .ok (.aload_n 0, 1) := by decide +kernel
theorem dX12_isThere_1 : decode cX12_isThere 1 = .ok (.iload_n 1, 1) := by decide +kernel
theorem dX12_isThere_2 : decode cX12_isThere 2 = .ok (.ifCond .eq 7, 3) := by decide +kernel
theorem dX12_isThere_5 : decode cX12_isThere 5 = .ok (.iconst 0, 1) := by decide +kernel
theorem dX12_isThere_6 : decode cX12_isThere 6 = .ok (.goto 4, 3) := by decide +kernel
theorem dX12_isThere_9 : decode cX12_isThere 9 = .ok (.iconst 1, 1) := by decide +kernel
theorem dX12_isThere_10 : decode cX12_isThere 10 = .ok (.putfield 45, 3) := by decide +kernel
theorem dX12_isThere_13 : decode cX12_isThere 13 = .ok (.iload_n 1, 1) := by decide +kernel
theorem dX12_isThere_14 : decode cX12_isThere 14 = .ok (.ireturn, 1) := by decide +kernel
theorem dX12_isChamber_0 : decode cX12_isChamber 0 = .ok (.iload_n 1, 1) := by decide +kernel
theorem dX12_isChamber_1 : decode cX12_isChamber 1 = .ok (.iconst 0, 1) := by decide +kernel
theorem dX12_isChamber_2 : decode cX12_isChamber 2 = .ok (.aload_n 0, 1) := by decide +kernel
theorem dX12_isChamber_3 : decode cX12_isChamber 3 = .ok (.getfield 9, 3) := by decide +kernel
theorem dX12_isChamber_6 : decode cX12_isChamber 6 = .ok (.iconst 0, 1) := by decide +kernel
theorem dX12_isChamber_7 : decode cX12_isChamber 7 = .ok (.iaload, 1) := by decide +kernel
theorem dX12_isChamber_8 : decode cX12_isChamber 8 = .ok (.iconst 1, 1) := by decide +kernel
theorem dX12_isChamber_9 : decode cX12_isChamber 9 = .ok (.isub, 1) := by decide +kernel
theorem dX12_isChamber_10 : decode cX12_isChamber 10 = .ok (.invokestatic 57, 3) := by decide +kernel
theorem dX12_isChamber_13 : decode cX12_isChamber 13 = .ok (.ireturn, 1) := by decide +kernel
theorem dX12_isHare_0 : decode cX12_isHare 0 = .ok (.iload_n 1, 1) := by decide +kernel
theorem dX12_isHare_1 : decode cX12_isHare 1 = .ok (.iconst 0, 1) := by decide +kernel
theorem dX12_isHare_2 : decode cX12_isHare 2 = .ok (.aload_n 0, 1) := by decide +kernel
theorem dX12_isHare_3 : decode cX12_isHare 3 = .ok (.getfield 9, 3) := by decide +kernel
theorem dX12_isHare_6 : decode cX12_isHare 6 = .ok (.iconst 1, 1) := by decide +kernel
theorem dX12_isHare_7 : decode cX12_isHare 7 = .ok (.iaload, 1) := by decide +kernel
theorem dX12_isHare_8 : decode cX12_isHare 8 = .ok (.iconst 1, 1) := by decide +kernel
theorem dX12_isHare_9 : decode cX12_isHare 9 = .ok (.isub, 1) := by decide +kernel
theorem dX12_isHare_10 : decode cX12_isHare 10 = .ok (.invokestatic 57, 3) := by decide +kernel
theorem dX12_isHare_13 : decode cX12_isHare 13 = .ok (.ireturn, 1) := by decide +kernel
theorem dX12_hare_0 : decode cX12_hare 0 = .ok (.aload_n 0, 1) := by decide +kernel
theorem dX12_hare_1 : decode cX12_hare 1 = .ok (.getfield 9, 3) := by decide +kernel
theorem dX12_hare_4 : decode cX12_hare 4 = .ok (.bipush 72, 2) := by decide +kernel
theorem dX12_hare_6 : decode cX12_hare 6 = .ok (.iconst 4, 1) := by decide +kernel
theorem dX12_hare_7 : decode cX12_hare 7 = .ok (.iload_n 1, 1) := by decide +kernel
theorem dX12_hare_8 : decode cX12_hare 8 = .ok (.imul, 1) := by decide +kernel
theorem dX12_hare_9 : decode cX12_hare 9 = .ok (.iadd, 1) := by decide +kernel
theorem dX12_hare_10 : decode cX12_hare 10 = .ok (.iload_n 2, 1) := by decide +kernel
theorem dX12_hare_11 : decode cX12_hare 11 = .ok (.iadd, 1) := by decide +kernel
theorem dX12_hare_12 : decode cX12_hare 12 = .ok (.iaload, 1) := by decide +kernel
theorem dX12_hare_13 : decode cX12_hare 13 = .ok (.ireturn, 1) := by decide +kernel
theorem dX12_of_0 : decode cX12_of 0 = .ok (.aload_n 0, 1) := by decide +kernel
theorem dX12_of_1 : decode cX12_of 1 = .ok (.getfield 9, 3) := by decide +kernel
theorem dX12_of_4 : decode cX12_of 4 = .ok (.bipush 96, 2) := by decide +kernel
theorem dX12_of_6 : decode cX12_of 6 = .ok (.bipush 47, 2) := by decide +kernel
theorem dX12_of_8 : decode cX12_of 8 = .ok (.iload_n 1, 1) := by decide +kernel
theorem dX12_of_9 : decode cX12_of 9 = .ok (.imul, 1) := by decide +kernel
theorem dX12_of_10 : decode cX12_of 10 = .ok (.iadd, 1) := by decide +kernel
theorem dX12_of_11 : decode cX12_of 11 = .ok (.iload_n 2, 1) := by decide +kernel
theorem dX12_of_12 : decode cX12_of 12 = .ok (.iadd, 1) := by decide +kernel
theorem dX12_of_13 : decode cX12_of 13 = .ok (.iaload, 1) := by decide +kernel
theorem dX12_of_14 : decode cX12_of 14 = .ok (.ireturn, 1) := by decide +kernel
theorem dX12_sets_0 : decode cX12_sets 0 = .ok (.aload_n 0, 1) := by decide +kernel
theorem dX12_sets_1 : decode cX12_sets 1 = .ok (.getfield 9, 3) := by decide +kernel
theorem dX12_sets_4 : decode cX12_sets 4 = .ok (.bipush 96, 2) := by decide +kernel
theorem dX12_sets_6 : decode cX12_sets 6 = .ok (.bipush 47, 2) := by decide +kernel
theorem dX12_sets_8 : decode cX12_sets 8 = .ok (.iload_n 1, 1) := by decide +kernel
theorem dX12_sets_9 : decode cX12_sets 9 = .ok (.imul, 1) := by decide +kernel
theorem dX12_sets_10 : decode cX12_sets 10 = .ok (.iadd, 1) := by decide +kernel
theorem dX12_sets_11 : decode cX12_sets 11 = .ok (.iload_n 2, 1) := by decide +kernel
theorem dX12_sets_12 : decode cX12_sets 12 = .ok (.iadd, 1) := by decide +kernel
theorem dX12_sets_13 : decode cX12_sets 13 = .ok (.iload_n 3, 1) := by decide +kernel
theorem dX12_sets_14 : decode cX12_sets 14 = .ok (.iastore, 1) := by decide +kernel
theorem dX12_sets_15 : decode cX12_sets 15 = .ok (.return_, 1) := by decide +kernel
theorem dX12_placeOf_0 : decode cX12_placeOf 0 = .ok (.iconst (-1), 1) := by decide +kernel
theorem dX12_placeOf_1 : decode cX12_placeOf 1 = .ok (.istore_n 2, 1) := by decide +kernel
theorem dX12_placeOf_2 : decode cX12_placeOf 2 = .ok (.iconst 0, 1) := by decide +kernel
theorem dX12_placeOf_3 : decode cX12_placeOf 3 = .ok (.istore_n 3, 1) := by decide +kernel
theorem dX12_placeOf_4 : decode cX12_placeOf 4 = .ok (.iload_n 3, 1) := by decide +kernel
theorem dX12_placeOf_5 : decode cX12_placeOf 5 = .ok (.aload_n 0, 1) := by decide +kernel
theorem dX12_placeOf_6 : decode cX12_placeOf 6 = .ok (.getfield 9, 3) := by decide +kernel
theorem dX12_placeOf_9 : decode cX12_placeOf 9 = .ok (.iconst 2, 1) := by decide +kernel
theorem dX12_placeOf_10 : decode cX12_placeOf 10 = .ok (.iaload, 1) := by decide +kernel
theorem dX12_placeOf_11 : decode cX12_placeOf 11 = .ok (.if_icmp .ge 25, 3) := by decide +kernel
theorem dX12_placeOf_14 : decode cX12_placeOf 14 = .ok (.aload_n 0, 1) := by decide +kernel
theorem dX12_placeOf_15 : decode cX12_placeOf 15 = .ok (.iload_n 3, 1) := by decide +kernel
theorem dX12_placeOf_16 : decode cX12_placeOf 16 = .ok (.iconst 0, 1) := by decide +kernel
theorem dX12_placeOf_17 : decode cX12_placeOf 17 = .ok (.invokevirtual 61, 3) := by decide +kernel
theorem dX12_placeOf_20 : decode cX12_placeOf 20 = .ok (.iload_n 1, 1) := by decide +kernel
theorem dX12_placeOf_21 : decode cX12_placeOf 21 = .ok (.if_icmp .ne 7, 3) := by decide +kernel
theorem dX12_placeOf_24 : decode cX12_placeOf 24 = .ok (.iload_n 3, 1) := by decide +kernel
theorem dX12_placeOf_25 : decode cX12_placeOf 25 = .ok (.goto 4, 3) := by decide +kernel
theorem dX12_placeOf_28 : decode cX12_placeOf 28 = .ok (.iload_n 2, 1) := by decide +kernel
theorem dX12_placeOf_29 : decode cX12_placeOf 29 = .ok (.istore_n 2, 1) := by decide +kernel
theorem dX12_placeOf_30 : decode cX12_placeOf 30 = .ok (.iinc 3 1, 3) := by decide +kernel
theorem dX12_placeOf_33 : decode cX12_placeOf 33 = .ok (.goto (-29), 3) := by decide +kernel
theorem dX12_placeOf_36 : decode cX12_placeOf 36 = .ok (.iload_n 2, 1) := by decide +kernel
theorem dX12_placeOf_37 : decode cX12_placeOf 37 = .ok (.ireturn, 1) := by decide +kernel
theorem dX12_homeOf_0 : decode cX12_homeOf 0 = .ok (.aload_n 0, 1) := by decide +kernel
theorem dX12_homeOf_1 : decode cX12_homeOf 1 = .ok (.aload_n 0, 1) := by decide +kernel
theorem dX12_homeOf_2 : decode cX12_homeOf 2 = .ok (.iload_n 1, 1) := by decide +kernel
theorem dX12_homeOf_3 : decode cX12_homeOf 3 = .ok (.iconst 1, 1) := by decide +kernel
theorem dX12_homeOf_4 : decode cX12_homeOf 4 = .ok (.invokevirtual 61, 3) := by decide +kernel
theorem dX12_homeOf_7 : decode cX12_homeOf 7 = .ok (.iconst 0, 1) := by decide +kernel
theorem dX12_homeOf_8 : decode cX12_homeOf 8 = .ok (.invokevirtual 65, 3) := by decide +kernel
theorem dX12_homeOf_11 : decode cX12_homeOf 11 = .ok (.ireturn, 1) := by decide +kernel
theorem dX12_tunnel_0 : decode cX12_tunnel 0 = .ok (.bipush 8, 2) := by decide +kernel
theorem dX12_tunnel_2 : decode cX12_tunnel 2 = .ok (.bipush 8, 2) := by decide +kernel
theorem dX12_tunnel_4 : decode cX12_tunnel 4 = .ok (.iload_n 0, 1) := by decide +kernel
theorem dX12_tunnel_5 : decode cX12_tunnel 5 = .ok (.imul, 1) := by decide +kernel
theorem dX12_tunnel_6 : decode cX12_tunnel 6 = .ok (.iadd, 1) := by decide +kernel
theorem dX12_tunnel_7 : decode cX12_tunnel 7 = .ok (.iload_n 1, 1) := by decide +kernel
theorem dX12_tunnel_8 : decode cX12_tunnel 8 = .ok (.iadd, 1) := by decide +kernel
theorem dX12_tunnel_9 : decode cX12_tunnel 9 = .ok (.ireturn, 1) := by decide +kernel
theorem dX12_finds_0 : decode cX12_finds 0 = .ok (.iconst 0, 1) := by decide +kernel
theorem dX12_finds_1 : decode cX12_finds 1 = .ok (.istore_n 2, 1) := by decide +kernel
theorem dX12_finds_2 : decode cX12_finds 2 = .ok (.iload_n 2, 1) := by decide +kernel
theorem dX12_finds_3 : decode cX12_finds 3 = .ok (.bipush 8, 2) := by decide +kernel
theorem dX12_finds_5 : decode cX12_finds 5 = .ok (.if_icmp .ge 27, 3) := by decide +kernel
theorem dX12_finds_8 : decode cX12_finds 8 = .ok (.aload_n 0, 1) := by decide +kernel
theorem dX12_finds_9 : decode cX12_finds 9 = .ok (.getfield 25, 3) := by decide +kernel
theorem dX12_finds_12 : decode cX12_finds 12 = .ok (.iload_n 2, 1) := by decide +kernel
theorem dX12_finds_13 : decode cX12_finds 13 = .ok (.iload_n 2, 1) := by decide +kernel
theorem dX12_finds_14 : decode cX12_finds 14 = .ok (.iload_n 1, 1) := by decide +kernel
theorem dX12_finds_15 : decode cX12_finds 15 = .ok (.if_icmp .ne 7, 3) := by decide +kernel
theorem dX12_finds_18 : decode cX12_finds 18 = .ok (.iconst 0, 1) := by decide +kernel
theorem dX12_finds_19 : decode cX12_finds 19 = .ok (.goto 6, 3) := by decide +kernel
theorem dX12_finds_22 : decode cX12_finds 22 = .ok (.sipush 1000, 3) := by decide +kernel
theorem dX12_finds_25 : decode cX12_finds 25 = .ok (.iastore, 1) := by decide +kernel
theorem dX12_finds_26 : decode cX12_finds 26 = .ok (.iinc 2 1, 3) := by decide +kernel
theorem dX12_finds_29 : decode cX12_finds 29 = .ok (.goto (-27), 3) := by decide +kernel
theorem dX12_finds_32 : decode cX12_finds 32 = .ok (.iconst 0, 1) := by decide +kernel
theorem dX12_finds_33 : decode cX12_finds 33 = .ok (.istore_n 2, 1) := by decide +kernel
theorem dX12_finds_34 : decode cX12_finds 34 = .ok (.iload_n 2, 1) := by decide +kernel
theorem dX12_finds_35 : decode cX12_finds 35 = .ok (.bipush 8, 2) := by decide +kernel
theorem dX12_finds_37 : decode cX12_finds 37 = .ok (.if_icmp .ge 114, 3) := by decide +kernel
theorem dX12_finds_40 : decode cX12_finds 40 = .ok (.iconst 0, 1) := by decide +kernel
theorem dX12_finds_41 : decode cX12_finds 41 = .ok (.istore_n 3, 1) := by decide +kernel
theorem dX12_finds_42 : decode cX12_finds 42 = .ok (.iload_n 3, 1) := by decide +kernel
theorem dX12_finds_43 : decode cX12_finds 43 = .ok (.bipush 8, 2) := by decide +kernel
theorem dX12_finds_45 : decode cX12_finds 45 = .ok (.if_icmp .ge 100, 3) := by decide +kernel
theorem dX12_finds_48 : decode cX12_finds 48 = .ok (.iconst 0, 1) := by decide +kernel
theorem dX12_finds_49 : decode cX12_finds 49 = .ok (.istore 4, 2) := by decide +kernel
theorem dX12_finds_51 : decode cX12_finds 51 = .ok (.iload 4, 2) := by decide +kernel
theorem dX12_finds_53 : decode cX12_finds 53 = .ok (.bipush 8, 2) := by decide +kernel
theorem dX12_finds_55 : decode cX12_finds 55 = .ok (.if_icmp .ge 84, 3) := by decide +kernel
theorem dX12_finds_58 : decode cX12_finds 58 = .ok (.aload_n 0, 1) := by decide +kernel
theorem dX12_finds_59 : decode cX12_finds 59 = .ok (.getfield 9, 3) := by decide +kernel
theorem dX12_finds_62 : decode cX12_finds 62 = .ok (.iload_n 3, 1) := by decide +kernel
theorem dX12_finds_63 : decode cX12_finds 63 = .ok (.iload 4, 2) := by decide +kernel
theorem dX12_finds_65 : decode cX12_finds 65 = .ok (.invokestatic 68, 3) := by decide +kernel
theorem dX12_finds_68 : decode cX12_finds 68 = .ok (.iaload, 1) := by decide +kernel
theorem dX12_finds_69 : decode cX12_finds 69 = .ok (.istore 5, 2) := by decide +kernel
theorem dX12_finds_71 : decode cX12_finds 71 = .ok (.iload 5, 2) := by decide +kernel
theorem dX12_finds_73 : decode cX12_finds 73 = .ok (.ifCond .le 26, 3) := by decide +kernel
theorem dX12_finds_76 : decode cX12_finds 76 = .ok (.aload_n 0, 1) := by decide +kernel
theorem dX12_finds_77 : decode cX12_finds 77 = .ok (.getfield 25, 3) := by decide +kernel
theorem dX12_finds_80 : decode cX12_finds 80 = .ok (.iload_n 3, 1) := by decide +kernel
theorem dX12_finds_81 : decode cX12_finds 81 = .ok (.iaload, 1) := by decide +kernel
theorem dX12_finds_82 : decode cX12_finds 82 = .ok (.iload 5, 2) := by decide +kernel
theorem dX12_finds_84 : decode cX12_finds 84 = .ok (.iadd, 1) := by decide +kernel
theorem dX12_finds_85 : decode cX12_finds 85 = .ok (.aload_n 0, 1) := by decide +kernel
theorem dX12_finds_86 : decode cX12_finds 86 = .ok (.getfield 25, 3) := by decide +kernel
theorem dX12_finds_89 : decode cX12_finds 89 = .ok (.iload 4, 2) := by decide +kernel
theorem dX12_finds_91 : decode cX12_finds 91 = .ok (.iaload, 1) := by decide +kernel
theorem dX12_finds_92 : decode cX12_finds 92 = .ok (.if_icmp .ge 7, 3) := by decide +kernel
theorem dX12_finds_95 : decode cX12_finds 95 = .ok (.iconst 1, 1) := by decide +kernel
theorem dX12_finds_96 : decode cX12_finds 96 = .ok (.goto 4, 3) := by decide +kernel
theorem dX12_finds_99 : decode cX12_finds 99 = .ok (.iconst 0, 1) := by decide +kernel
theorem dX12_finds_100 : decode cX12_finds 100 = .ok (.istore 6, 2) := by decide +kernel
theorem dX12_finds_102 : decode cX12_finds 102 = .ok (.aload_n 0, 1) := by decide +kernel
theorem dX12_finds_103 : decode cX12_finds 103 = .ok (.getfield 25, 3) := by decide +kernel
theorem dX12_finds_106 : decode cX12_finds 106 = .ok (.iload 4, 2) := by decide +kernel
theorem dX12_finds_108 : decode cX12_finds 108 = .ok (.iload 6, 2) := by decide +kernel
theorem dX12_finds_110 : decode cX12_finds 110 = .ok (.ifCond .eq 15, 3) := by decide +kernel
theorem dX12_finds_113 : decode cX12_finds 113 = .ok (.aload_n 0, 1) := by decide +kernel
theorem dX12_finds_114 : decode cX12_finds 114 = .ok (.getfield 25, 3) := by decide +kernel
theorem dX12_finds_117 : decode cX12_finds 117 = .ok (.iload_n 3, 1) := by decide +kernel
theorem dX12_finds_118 : decode cX12_finds 118 = .ok (.iaload, 1) := by decide +kernel
theorem dX12_finds_119 : decode cX12_finds 119 = .ok (.iload 5, 2) := by decide +kernel
theorem dX12_finds_121 : decode cX12_finds 121 = .ok (.iadd, 1) := by decide +kernel
theorem dX12_finds_122 : decode cX12_finds 122 = .ok (.goto 10, 3) := by decide +kernel
theorem dX12_finds_125 : decode cX12_finds 125 = .ok (.aload_n 0, 1) := by decide +kernel
theorem dX12_finds_126 : decode cX12_finds 126 = .ok (.getfield 25, 3) := by decide +kernel
theorem dX12_finds_129 : decode cX12_finds 129 = .ok (.iload 4, 2) := by decide +kernel
theorem dX12_finds_131 : decode cX12_finds 131 = .ok (.iaload, 1) := by decide +kernel
theorem dX12_finds_132 : decode cX12_finds 132 = .ok (.iastore, 1) := by decide +kernel
theorem dX12_finds_133 : decode cX12_finds 133 = .ok (.iinc 4 1, 3) := by decide +kernel
theorem dX12_finds_136 : decode cX12_finds 136 = .ok (.goto (-85), 3) := by decide +kernel
theorem dX12_finds_139 : decode cX12_finds 139 = .ok (.iinc 3 1, 3) := by decide +kernel
theorem dX12_finds_142 : decode cX12_finds 142 = .ok (.goto (-100), 3) := by decide +kernel
theorem dX12_finds_145 : decode cX12_finds 145 = .ok (.iinc 2 1, 3) := by decide +kernel
theorem dX12_finds_148 : decode cX12_finds 148 = .ok (.goto (-114), 3) := by decide +kernel
theorem dX12_finds_151 : decode cX12_finds 151 = .ok (.return_, 1) := by decide +kernel
theorem dX12_doAddChamber_0 : decode cX12_doAddChamber 0 = .ok (.aload_n 0, 1) := by decide +kernel
theorem dX12_doAddChamber_1 : decode cX12_doAddChamber 1 = .ok (.getfield 9, 3) := by decide +kernel
theorem dX12_doAddChamber_4 : decode cX12_doAddChamber 4 = .ok (.iconst 0, 1) := by decide +kernel
theorem dX12_doAddChamber_5 : decode cX12_doAddChamber 5 = .ok (.iaload, 1) := by decide +kernel
theorem dX12_doAddChamber_6 : decode cX12_doAddChamber 6 = .ok (.bipush 8, 2) := by decide +kernel
theorem dX12_doAddChamber_8 : decode cX12_doAddChamber 8 = .ok (.if_icmp .ne 9, 3) := by decide +kernel
theorem dX12_doAddChamber_11 : decode cX12_doAddChamber 11 = .ok (.aload_n 0, 1) := by decide +kernel
theorem dX12_doAddChamber_12 : decode cX12_doAddChamber 12 = .ok (.iconst 1, 1) := by decide +kernel
theorem dX12_doAddChamber_13 : decode cX12_doAddChamber 13 = .ok (.invokevirtual 71, 3) := by decide +kernel
theorem dX12_doAddChamber_16 : decode cX12_doAddChamber 16 = .ok (.ireturn, 1) := by decide +kernel
theorem dX12_doAddChamber_17 : decode cX12_doAddChamber 17 = .ok (.aload_n 0, 1) := by decide +kernel
theorem dX12_doAddChamber_18 : decode cX12_doAddChamber 18 = .ok (.getfield 9, 3) := by decide +kernel
theorem dX12_doAddChamber_21 : decode cX12_doAddChamber 21 = .ok (.iconst 0, 1) := by decide +kernel
theorem dX12_doAddChamber_22 : decode cX12_doAddChamber 22 = .ok (.dup2, 1) := by decide +kernel
theorem dX12_doAddChamber_23 : decode cX12_doAddChamber 23 = .ok (.iaload, 1) := by decide +kernel
theorem dX12_doAddChamber_24 : decode cX12_doAddChamber 24 = .ok (.iconst 1, 1) := by decide +kernel
theorem dX12_doAddChamber_25 : decode cX12_doAddChamber 25 = .ok (.iadd, 1) := by decide +kernel
theorem dX12_doAddChamber_26 : decode cX12_doAddChamber 26 = .ok (.iastore, 1) := by decide +kernel
theorem dX12_doAddChamber_27 : decode cX12_doAddChamber 27 = .ok (.aload_n 0, 1) := by decide +kernel
theorem dX12_doAddChamber_28 : decode cX12_doAddChamber 28 = .ok (.getfield 9, 3) := by decide +kernel
theorem dX12_doAddChamber_31 : decode cX12_doAddChamber 31 = .ok (.iconst 0, 1) := by decide +kernel
theorem dX12_doAddChamber_32 : decode cX12_doAddChamber 32 = .ok (.iaload, 1) := by decide +kernel
theorem dX12_doAddChamber_33 : decode cX12_doAddChamber 33 = .ok (.iconst 1, 1) := by decide +kernel
theorem dX12_doAddChamber_34 : decode cX12_doAddChamber 34 = .ok (.isub, 1) := by decide +kernel
theorem dX12_doAddChamber_35 : decode cX12_doAddChamber 35 = .ok (.ireturn, 1) := by decide +kernel
theorem dX12_addChamber_0 : decode cX12_addChamber 0 = .ok (.aload_n 0, 1) := by decide +kernel
theorem dX12_addChamber_1 : decode cX12_addChamber 1 = .ok (.invokevirtual 75, 3) := by decide +kernel
theorem dX12_addChamber_4 : decode cX12_addChamber 4 = .ok (.aload_n 0, 1) := by decide +kernel
theorem dX12_addChamber_5 : decode cX12_addChamber 5 = .ok (.aload_n 0, 1) := by decide +kernel
theorem dX12_addChamber_6 : decode cX12_addChamber 6 = .ok (.invokevirtual 78, 3) := by decide +kernel
theorem dX12_addChamber_9 : decode cX12_addChamber 9 = .ok (.invokevirtual 82, 3) := by decide +kernel
theorem dX12_addChamber_12 : decode cX12_addChamber 12 = .ok (.ireturn, 1) := by decide +kernel
theorem dX12_tunnels_0 : decode cX12_tunnels 0 = .ok (.iconst 0, 1) := by decide +kernel
theorem dX12_tunnels_1 : decode cX12_tunnels 1 = .ok (.istore_n 1, 1) := by decide +kernel
theorem dX12_tunnels_2 : decode cX12_tunnels 2 = .ok (.iconst 0, 1) := by decide +kernel
theorem dX12_tunnels_3 : decode cX12_tunnels 3 = .ok (.istore_n 2, 1) := by decide +kernel
theorem dX12_tunnels_4 : decode cX12_tunnels 4 = .ok (.iload_n 2, 1) := by decide +kernel
theorem dX12_tunnels_5 : decode cX12_tunnels 5 = .ok (.bipush 8, 2) := by decide +kernel
theorem dX12_tunnels_7 : decode cX12_tunnels 7 = .ok (.if_icmp .ge 43, 3) := by decide +kernel
theorem dX12_tunnels_10 : decode cX12_tunnels 10 = .ok (.iconst 0, 1) := by decide +kernel
theorem dX12_tunnels_11 : decode cX12_tunnels 11 = .ok (.istore_n 3, 1) := by decide +kernel
theorem dX12_tunnels_12 : decode cX12_tunnels 12 = .ok (.iload_n 3, 1) := by decide +kernel
theorem dX12_tunnels_13 : decode cX12_tunnels 13 = .ok (.iload_n 2, 1) := by decide +kernel
theorem dX12_tunnels_14 : decode cX12_tunnels 14 = .ok (.if_icmp .ge 30, 3) := by decide +kernel
theorem dX12_tunnels_17 : decode cX12_tunnels 17 = .ok (.iload_n 1, 1) := by decide +kernel
theorem dX12_tunnels_18 : decode cX12_tunnels 18 = .ok (.aload_n 0, 1) := by decide +kernel
theorem dX12_tunnels_19 : decode cX12_tunnels 19 = .ok (.getfield 9, 3) := by decide +kernel
theorem dX12_tunnels_22 : decode cX12_tunnels 22 = .ok (.iload_n 2, 1) := by decide +kernel
theorem dX12_tunnels_23 : decode cX12_tunnels 23 = .ok (.iload_n 3, 1) := by decide +kernel
theorem dX12_tunnels_24 : decode cX12_tunnels 24 = .ok (.invokestatic 68, 3) := by decide +kernel
theorem dX12_tunnels_27 : decode cX12_tunnels 27 = .ok (.iaload, 1) := by decide +kernel
theorem dX12_tunnels_28 : decode cX12_tunnels 28 = .ok (.ifCond .le 7, 3) := by decide +kernel
theorem dX12_tunnels_31 : decode cX12_tunnels 31 = .ok (.iconst 1, 1) := by decide +kernel
theorem dX12_tunnels_32 : decode cX12_tunnels 32 = .ok (.goto 4, 3) := by decide +kernel
theorem dX12_tunnels_35 : decode cX12_tunnels 35 = .ok (.iconst 0, 1) := by decide +kernel
theorem dX12_tunnels_36 : decode cX12_tunnels 36 = .ok (.iadd, 1) := by decide +kernel
theorem dX12_tunnels_37 : decode cX12_tunnels 37 = .ok (.istore_n 1, 1) := by decide +kernel
theorem dX12_tunnels_38 : decode cX12_tunnels 38 = .ok (.iinc 3 1, 3) := by decide +kernel
theorem dX12_tunnels_41 : decode cX12_tunnels 41 = .ok (.goto (-29), 3) := by decide +kernel
theorem dX12_tunnels_44 : decode cX12_tunnels 44 = .ok (.iinc 2 1, 3) := by decide +kernel
theorem dX12_tunnels_47 : decode cX12_tunnels 47 = .ok (.goto (-43), 3) := by decide +kernel
theorem dX12_tunnels_50 : decode cX12_tunnels 50 = .ok (.iload_n 1, 1) := by decide +kernel
theorem dX12_tunnels_51 : decode cX12_tunnels 51 = .ok (.ireturn, 1) := by decide +kernel
theorem dX12_doAddTunnel_0 : decode cX12_doAddTunnel 0 = .ok (.aload_n 0, 1) := by decide +kernel
theorem dX12_doAddTunnel_1 : decode cX12_doAddTunnel 1 = .ok (.iload_n 1, 1) := by decide +kernel
theorem dX12_doAddTunnel_2 : decode cX12_doAddTunnel 2 = .ok (.invokevirtual 85, 3) := by decide +kernel
theorem dX12_doAddTunnel_5 : decode cX12_doAddTunnel 5 = .ok (.ifCond .eq 11, 3) := by decide +kernel
theorem dX12_doAddTunnel_8 : decode cX12_doAddTunnel 8 = .ok (.aload_n 0, 1) := by decide +kernel
theorem dX12_doAddTunnel_9 : decode cX12_doAddTunnel 9 = .ok (.iload_n 2, 1) := by decide +kernel
theorem dX12_doAddTunnel_10 : decode cX12_doAddTunnel 10 = .ok (.invokevirtual 85, 3) := by decide +kernel
theorem dX12_doAddTunnel_13 : decode cX12_doAddTunnel 13 = .ok (.ifCond .ne 9, 3) := by decide +kernel
theorem dX12_doAddTunnel_16 : decode cX12_doAddTunnel 16 = .ok (.aload_n 0, 1) := by decide +kernel
theorem dX12_doAddTunnel_17 : decode cX12_doAddTunnel 17 = .ok (.iconst 1, 1) := by decide +kernel
theorem dX12_doAddTunnel_18 : decode cX12_doAddTunnel 18 = .ok (.invokevirtual 71, 3) := by decide +kernel
theorem dX12_doAddTunnel_21 : decode cX12_doAddTunnel 21 = .ok (.ireturn, 1) := by decide +kernel
theorem dX12_doAddTunnel_22 : decode cX12_doAddTunnel 22 = .ok (.iload_n 1, 1) := by decide +kernel
theorem dX12_doAddTunnel_23 : decode cX12_doAddTunnel 23 = .ok (.iload_n 2, 1) := by decide +kernel
theorem dX12_doAddTunnel_24 : decode cX12_doAddTunnel 24 = .ok (.if_icmp .eq 13, 3) := by decide +kernel
theorem dX12_doAddTunnel_27 : decode cX12_doAddTunnel 27 = .ok (.iload_n 3, 1) := by decide +kernel
theorem dX12_doAddTunnel_28 : decode cX12_doAddTunnel 28 = .ok (.iconst 1, 1) := by decide +kernel
theorem dX12_doAddTunnel_29 : decode cX12_doAddTunnel 29 = .ok (.bipush 9, 2) := by decide +kernel
theorem dX12_doAddTunnel_31 : decode cX12_doAddTunnel 31 = .ok (.invokestatic 57, 3) := by decide +kernel
theorem dX12_doAddTunnel_34 : decode cX12_doAddTunnel 34 = .ok (.ifCond .ne 9, 3) := by decide +kernel
theorem dX12_doAddTunnel_37 : decode cX12_doAddTunnel 37 = .ok (.aload_n 0, 1) := by decide +kernel
theorem dX12_doAddTunnel_38 : decode cX12_doAddTunnel 38 = .ok (.iconst 2, 1) := by decide +kernel
theorem dX12_doAddTunnel_39 : decode cX12_doAddTunnel 39 = .ok (.invokevirtual 71, 3) := by decide +kernel
theorem dX12_doAddTunnel_42 : decode cX12_doAddTunnel 42 = .ok (.ireturn, 1) := by decide +kernel
theorem dX12_doAddTunnel_43 : decode cX12_doAddTunnel 43 = .ok (.aload_n 0, 1) := by decide +kernel
theorem dX12_doAddTunnel_44 : decode cX12_doAddTunnel 44 = .ok (.getfield 9, 3) := by decide +kernel
theorem dX12_doAddTunnel_47 : decode cX12_doAddTunnel 47 = .ok (.iload_n 1, 1) := by decide +kernel
theorem dX12_doAddTunnel_48 : decode cX12_doAddTunnel 48 = .ok (.iload_n 2, 1) := by decide +kernel
theorem dX12_doAddTunnel_49 : decode cX12_doAddTunnel 49 = .ok (.invokestatic 68, 3) := by decide +kernel
theorem dX12_doAddTunnel_52 : decode cX12_doAddTunnel 52 = .ok (.iaload, 1) := by decide +kernel
theorem dX12_doAddTunnel_53 : decode cX12_doAddTunnel 53 = .ok (.ifCond .le 9, 3) := by decide +kernel
theorem dX12_doAddTunnel_56 : decode cX12_doAddTunnel 56 = .ok (.aload_n 0, 1) := by decide +kernel
theorem dX12_doAddTunnel_57 : decode cX12_doAddTunnel 57 = .ok (.iconst 3, 1) := by decide +kernel
theorem dX12_doAddTunnel_58 : decode cX12_doAddTunnel 58 = .ok (.invokevirtual 71, 3) := by decide +kernel
theorem dX12_doAddTunnel_61 : decode cX12_doAddTunnel 61 = .ok (.ireturn, 1) := by decide +kernel
theorem dX12_doAddTunnel_62 : decode cX12_doAddTunnel 62 = .ok (.aload_n 0, 1) := by decide +kernel
theorem dX12_doAddTunnel_63 : decode cX12_doAddTunnel 63 = .ok (.getfield 9, 3) := by decide +kernel
theorem dX12_doAddTunnel_66 : decode cX12_doAddTunnel 66 = .ok (.iload_n 1, 1) := by decide +kernel
theorem dX12_doAddTunnel_67 : decode cX12_doAddTunnel 67 = .ok (.iload_n 2, 1) := by decide +kernel
theorem dX12_doAddTunnel_68 : decode cX12_doAddTunnel 68 = .ok (.invokestatic 68, 3) := by decide +kernel
theorem dX12_doAddTunnel_71 : decode cX12_doAddTunnel 71 = .ok (.iload_n 3, 1) := by decide +kernel
theorem dX12_doAddTunnel_72 : decode cX12_doAddTunnel 72 = .ok (.iastore, 1) := by decide +kernel
theorem dX12_doAddTunnel_73 : decode cX12_doAddTunnel 73 = .ok (.aload_n 0, 1) := by decide +kernel
theorem dX12_doAddTunnel_74 : decode cX12_doAddTunnel 74 = .ok (.getfield 9, 3) := by decide +kernel
theorem dX12_doAddTunnel_77 : decode cX12_doAddTunnel 77 = .ok (.iload_n 2, 1) := by decide +kernel
theorem dX12_doAddTunnel_78 : decode cX12_doAddTunnel 78 = .ok (.iload_n 1, 1) := by decide +kernel
theorem dX12_doAddTunnel_79 : decode cX12_doAddTunnel 79 = .ok (.invokestatic 68, 3) := by decide +kernel
theorem dX12_doAddTunnel_82 : decode cX12_doAddTunnel 82 = .ok (.iload_n 3, 1) := by decide +kernel
theorem dX12_doAddTunnel_83 : decode cX12_doAddTunnel 83 = .ok (.iastore, 1) := by decide +kernel
theorem dX12_doAddTunnel_84 : decode cX12_doAddTunnel 84 = .ok (.aload_n 0, 1) := by decide +kernel
theorem dX12_doAddTunnel_85 : decode cX12_doAddTunnel 85 = .ok (.invokevirtual 89, 3) := by decide +kernel
theorem dX12_doAddTunnel_88 : decode cX12_doAddTunnel 88 = .ok (.ireturn, 1) := by decide +kernel
theorem dX12_addTunnel_0 : decode cX12_addTunnel 0 = .ok (.aload_n 0, 1) := by decide +kernel
theorem dX12_addTunnel_1 : decode cX12_addTunnel 1 = .ok (.invokevirtual 75, 3) := by decide +kernel
theorem dX12_addTunnel_4 : decode cX12_addTunnel 4 = .ok (.aload_n 0, 1) := by decide +kernel
theorem dX12_addTunnel_5 : decode cX12_addTunnel 5 = .ok (.aload_n 0, 1) := by decide +kernel
theorem dX12_addTunnel_6 : decode cX12_addTunnel 6 = .ok (.iload_n 1, 1) := by decide +kernel
theorem dX12_addTunnel_7 : decode cX12_addTunnel 7 = .ok (.iload_n 2, 1) := by decide +kernel
theorem dX12_addTunnel_8 : decode cX12_addTunnel 8 = .ok (.iload_n 3, 1) := by decide +kernel
theorem dX12_addTunnel_9 : decode cX12_addTunnel 9 = .ok (.invokevirtual 92, 3) := by decide +kernel
theorem dX12_addTunnel_12 : decode cX12_addTunnel 12 = .ok (.invokevirtual 82, 3) := by decide +kernel
theorem dX12_addTunnel_15 : decode cX12_addTunnel 15 = .ok (.ireturn, 1) := by decide +kernel
theorem dX12_doRemoveTunnel_0 : decode cX12_doRemoveTunnel 0 = .ok (.aload_n 0, 1) := by decide +kernel
theorem dX12_doRemoveTunnel_1 : decode cX12_doRemoveTunnel 1 = .ok (.iload_n 1, 1) := by decide +kernel
theorem dX12_doRemoveTunnel_2 : decode cX12_doRemoveTunnel 2 = .ok (.invokevirtual 85, 3) := by decide +kernel
theorem dX12_doRemoveTunnel_5 : decode cX12_doRemoveTunnel 5 = .ok (.ifCond .eq 11, 3) := by decide +kernel
theorem dX12_doRemoveTunnel_8 : decode cX12_doRemoveTunnel 8 = .ok (.aload_n 0, 1) := by decide +kernel
theorem dX12_doRemoveTunnel_9 : decode cX12_doRemoveTunnel 9 = .ok (.iload_n 2, 1) := by decide +kernel
theorem dX12_doRemoveTunnel_10 : decode cX12_doRemoveTunnel 10 = .ok (.invokevirtual 85, 3) := by decide +kernel
theorem dX12_doRemoveTunnel_13 : decode cX12_doRemoveTunnel 13 = .ok (.ifCond .ne 9, 3) := by decide +kernel
theorem dX12_doRemoveTunnel_16 : decode cX12_doRemoveTunnel 16 = .ok (.aload_n 0, 1) := by decide +kernel
theorem dX12_doRemoveTunnel_17 : decode cX12_doRemoveTunnel 17 = .ok (.iconst 1, 1) := by decide +kernel
theorem dX12_doRemoveTunnel_18 : decode cX12_doRemoveTunnel 18 = .ok (.invokevirtual 71, 3) := by decide +kernel
theorem dX12_doRemoveTunnel_21 : decode cX12_doRemoveTunnel 21 = .ok (.ireturn, 1) := by decide +kernel
theorem dX12_doRemoveTunnel_22 : decode cX12_doRemoveTunnel 22 = .ok (.aload_n 0, 1) := by decide +kernel
theorem dX12_doRemoveTunnel_23 : decode cX12_doRemoveTunnel 23 = .ok (.getfield 9, 3) := by decide +kernel
theorem dX12_doRemoveTunnel_26 : decode cX12_doRemoveTunnel 26 = .ok (.iload_n 1, 1) := by decide +kernel
theorem dX12_doRemoveTunnel_27 : decode cX12_doRemoveTunnel 27 = .ok (.iload_n 2, 1) := by decide +kernel
theorem dX12_doRemoveTunnel_28 : decode cX12_doRemoveTunnel 28 = .ok (.invokestatic 68, 3) := by decide +kernel
theorem dX12_doRemoveTunnel_31 : decode cX12_doRemoveTunnel 31 = .ok (.iaload, 1) := by decide +kernel
theorem dX12_doRemoveTunnel_32 : decode cX12_doRemoveTunnel 32 = .ok (.istore_n 3, 1) := by decide +kernel
theorem dX12_doRemoveTunnel_33 : decode cX12_doRemoveTunnel 33 = .ok (.iload_n 3, 1) := by decide +kernel
theorem dX12_doRemoveTunnel_34 : decode cX12_doRemoveTunnel 34 = .ok (.ifCond .ne 9, 3) := by decide +kernel
theorem dX12_doRemoveTunnel_37 : decode cX12_doRemoveTunnel 37 = .ok (.aload_n 0, 1) := by decide +kernel
theorem dX12_doRemoveTunnel_38 : decode cX12_doRemoveTunnel 38 = .ok (.iconst 2, 1) := by decide +kernel
theorem dX12_doRemoveTunnel_39 : decode cX12_doRemoveTunnel 39 = .ok (.invokevirtual 71, 3) := by decide +kernel
theorem dX12_doRemoveTunnel_42 : decode cX12_doRemoveTunnel 42 = .ok (.ireturn, 1) := by decide +kernel
theorem dX12_doRemoveTunnel_43 : decode cX12_doRemoveTunnel 43 = .ok (.aload_n 0, 1) := by decide +kernel
theorem dX12_doRemoveTunnel_44 : decode cX12_doRemoveTunnel 44 = .ok (.getfield 9, 3) := by decide +kernel
theorem dX12_doRemoveTunnel_47 : decode cX12_doRemoveTunnel 47 = .ok (.iload_n 1, 1) := by decide +kernel
theorem dX12_doRemoveTunnel_48 : decode cX12_doRemoveTunnel 48 = .ok (.iload_n 2, 1) := by decide +kernel
theorem dX12_doRemoveTunnel_49 : decode cX12_doRemoveTunnel 49 = .ok (.invokestatic 68, 3) := by decide +kernel
theorem dX12_doRemoveTunnel_52 : decode cX12_doRemoveTunnel 52 = .ok (.iconst 0, 1) := by decide +kernel
theorem dX12_doRemoveTunnel_53 : decode cX12_doRemoveTunnel 53 = .ok (.iastore, 1) := by decide +kernel
theorem dX12_doRemoveTunnel_54 : decode cX12_doRemoveTunnel 54 = .ok (.aload_n 0, 1) := by decide +kernel
theorem dX12_doRemoveTunnel_55 : decode cX12_doRemoveTunnel 55 = .ok (.getfield 9, 3) := by decide +kernel
theorem dX12_doRemoveTunnel_58 : decode cX12_doRemoveTunnel 58 = .ok (.iload_n 2, 1) := by decide +kernel
theorem dX12_doRemoveTunnel_59 : decode cX12_doRemoveTunnel 59 = .ok (.iload_n 1, 1) := by decide +kernel
theorem dX12_doRemoveTunnel_60 : decode cX12_doRemoveTunnel 60 = .ok (.invokestatic 68, 3) := by decide +kernel
theorem dX12_doRemoveTunnel_63 : decode cX12_doRemoveTunnel 63 = .ok (.iconst 0, 1) := by decide +kernel
theorem dX12_doRemoveTunnel_64 : decode cX12_doRemoveTunnel 64 = .ok (.iastore, 1) := by decide +kernel
theorem dX12_doRemoveTunnel_65 : decode cX12_doRemoveTunnel 65 = .ok (.iload_n 3, 1) := by decide +kernel
theorem dX12_doRemoveTunnel_66 : decode cX12_doRemoveTunnel 66 = .ok (.ireturn, 1) := by decide +kernel
theorem dX12_removeTunnel_0 : decode cX12_removeTunnel 0 = .ok (.aload_n 0, 1) := by decide +kernel
theorem dX12_removeTunnel_1 : decode cX12_removeTunnel 1 = .ok (.invokevirtual 75, 3) := by decide +kernel
theorem dX12_removeTunnel_4 : decode cX12_removeTunnel 4 = .ok (.aload_n 0, 1) := by decide +kernel
theorem dX12_removeTunnel_5 : decode cX12_removeTunnel 5 = .ok (.aload_n 0, 1) := by decide +kernel
theorem dX12_removeTunnel_6 : decode cX12_removeTunnel 6 = .ok (.iload_n 1, 1) := by decide +kernel
theorem dX12_removeTunnel_7 : decode cX12_removeTunnel 7 = .ok (.iload_n 2, 1) := by decide +kernel
theorem dX12_removeTunnel_8 : decode cX12_removeTunnel 8 = .ok (.invokevirtual 96, 3) := by decide +kernel
theorem dX12_removeTunnel_11 : decode cX12_removeTunnel 11 = .ok (.invokevirtual 82, 3) := by decide +kernel
theorem dX12_removeTunnel_14 : decode cX12_removeTunnel 14 = .ok (.ireturn, 1) := by decide +kernel
theorem dX12_chamberCount_0 : decode cX12_chamberCount 0 = .ok (.aload_n 0, 1) := by decide +kernel
theorem dX12_chamberCount_1 : decode cX12_chamberCount 1 = .ok (.iconst 0, 1) := by decide +kernel
theorem dX12_chamberCount_2 : decode cX12_chamberCount 2 = .ok (.putfield 45, 3) := by decide +kernel
theorem dX12_chamberCount_5 : decode cX12_chamberCount 5 = .ok (.aload_n 0, 1) := by decide +kernel
theorem dX12_chamberCount_6 : decode cX12_chamberCount 6 = .ok (.getfield 9, 3) := by decide +kernel
theorem dX12_chamberCount_9 : decode cX12_chamberCount 9 = .ok (.iconst 0, 1) := by decide +kernel
theorem dX12_chamberCount_10 : decode cX12_chamberCount 10 = .ok (.iaload, 1) := by decide +kernel
theorem dX12_chamberCount_11 : decode cX12_chamberCount 11 = .ok (.ireturn, 1) := by decide +kernel
theorem dX12_tunnelCount_0 : decode cX12_tunnelCount 0 = .ok (.aload_n 0, 1) := by decide +kernel
theorem dX12_tunnelCount_1 : decode cX12_tunnelCount 1 = .ok (.iconst 0, 1) := by decide +kernel
theorem dX12_tunnelCount_2 : decode cX12_tunnelCount 2 = .ok (.putfield 45, 3) := by decide +kernel
theorem dX12_tunnelCount_5 : decode cX12_tunnelCount 5 = .ok (.aload_n 0, 1) := by decide +kernel
theorem dX12_tunnelCount_6 : decode cX12_tunnelCount 6 = .ok (.invokevirtual 89, 3) := by decide +kernel
theorem dX12_tunnelCount_9 : decode cX12_tunnelCount 9 = .ok (.ireturn, 1) := by decide +kernel
theorem dX12_tunnelDelay_0 : decode cX12_tunnelDelay 0 = .ok (.aload_n 0, 1) := by decide +kernel
theorem dX12_tunnelDelay_1 : decode cX12_tunnelDelay 1 = .ok (.aload_n 0, 1) := by decide +kernel
theorem dX12_tunnelDelay_2 : decode cX12_tunnelDelay 2 = .ok (.iload_n 1, 1) := by decide +kernel
theorem dX12_tunnelDelay_3 : decode cX12_tunnelDelay 3 = .ok (.invokevirtual 85, 3) := by decide +kernel
theorem dX12_tunnelDelay_6 : decode cX12_tunnelDelay 6 = .ok (.ifCond .eq 11, 3) := by decide +kernel
theorem dX12_tunnelDelay_9 : decode cX12_tunnelDelay 9 = .ok (.aload_n 0, 1) := by decide +kernel
theorem dX12_tunnelDelay_10 : decode cX12_tunnelDelay 10 = .ok (.iload_n 2, 1) := by decide +kernel
theorem dX12_tunnelDelay_11 : decode cX12_tunnelDelay 11 = .ok (.invokevirtual 85, 3) := by decide +kernel
theorem dX12_tunnelDelay_14 : decode cX12_tunnelDelay 14 = .ok (.ifCond .ne 7, 3) := by decide +kernel
theorem dX12_tunnelDelay_17 : decode cX12_tunnelDelay 17 = .ok (.iconst 1, 1) := by decide +kernel
theorem dX12_tunnelDelay_18 : decode cX12_tunnelDelay 18 = .ok (.goto 21, 3) := by decide +kernel
theorem dX12_tunnelDelay_21 : decode cX12_tunnelDelay 21 = .ok (.aload_n 0, 1) := by decide +kernel
theorem dX12_tunnelDelay_22 : decode cX12_tunnelDelay 22 = .ok (.getfield 9, 3) := by decide +kernel
theorem dX12_tunnelDelay_25 : decode cX12_tunnelDelay 25 = .ok (.iload_n 1, 1) := by decide +kernel
theorem dX12_tunnelDelay_26 : decode cX12_tunnelDelay 26 = .ok (.iload_n 2, 1) := by decide +kernel
theorem dX12_tunnelDelay_27 : decode cX12_tunnelDelay 27 = .ok (.invokestatic 68, 3) := by decide +kernel
theorem dX12_tunnelDelay_30 : decode cX12_tunnelDelay 30 = .ok (.iaload, 1) := by decide +kernel
theorem dX12_tunnelDelay_31 : decode cX12_tunnelDelay 31 = .ok (.ifCond .ne 7, 3) := by decide +kernel
theorem dX12_tunnelDelay_34 : decode cX12_tunnelDelay 34 = .ok (.iconst 2, 1) := by decide +kernel
theorem dX12_tunnelDelay_35 : decode cX12_tunnelDelay 35 = .ok (.goto 4, 3) := by decide +kernel
theorem dX12_tunnelDelay_38 : decode cX12_tunnelDelay 38 = .ok (.iconst 0, 1) := by decide +kernel
theorem dX12_tunnelDelay_39 : decode cX12_tunnelDelay 39 = .ok (.putfield 45, 3) := by decide +kernel
theorem dX12_tunnelDelay_42 : decode cX12_tunnelDelay 42 = .ok (.aload_n 0, 1) := by decide +kernel
theorem dX12_tunnelDelay_43 : decode cX12_tunnelDelay 43 = .ok (.getfield 45, 3) := by decide +kernel
theorem dX12_tunnelDelay_46 : decode cX12_tunnelDelay 46 = .ok (.ifCond .le 7, 3) := by decide +kernel
theorem dX12_tunnelDelay_49 : decode cX12_tunnelDelay 49 = .ok (.iconst 0, 1) := by decide +kernel
theorem dX12_tunnelDelay_50 : decode cX12_tunnelDelay 50 = .ok (.goto 13, 3) := by decide +kernel
theorem dX12_tunnelDelay_53 : decode cX12_tunnelDelay 53 = .ok (.aload_n 0, 1) := by decide +kernel
theorem dX12_tunnelDelay_54 : decode cX12_tunnelDelay 54 = .ok (.getfield 9, 3) := by decide +kernel
theorem dX12_tunnelDelay_57 : decode cX12_tunnelDelay 57 = .ok (.iload_n 1, 1) := by decide +kernel
theorem dX12_tunnelDelay_58 : decode cX12_tunnelDelay 58 = .ok (.iload_n 2, 1) := by decide +kernel
theorem dX12_tunnelDelay_59 : decode cX12_tunnelDelay 59 = .ok (.invokestatic 68, 3) := by decide +kernel
theorem dX12_tunnelDelay_62 : decode cX12_tunnelDelay 62 = .ok (.iaload, 1) := by decide +kernel
theorem dX12_tunnelDelay_63 : decode cX12_tunnelDelay 63 = .ok (.ireturn, 1) := by decide +kernel
theorem dX12_shortestDelay_0 : decode cX12_shortestDelay 0 = .ok (.aload_n 0, 1) := by decide +kernel
theorem dX12_shortestDelay_1 : decode cX12_shortestDelay 1 = .ok (.iload_n 1, 1) := by decide +kernel
theorem dX12_shortestDelay_2 : decode cX12_shortestDelay 2 = .ok (.invokevirtual 85, 3) := by decide +kernel
theorem dX12_shortestDelay_5 : decode cX12_shortestDelay 5 = .ok (.ifCond .eq 11, 3) := by decide +kernel
theorem dX12_shortestDelay_8 : decode cX12_shortestDelay 8 = .ok (.aload_n 0, 1) := by decide +kernel
theorem dX12_shortestDelay_9 : decode cX12_shortestDelay 9 = .ok (.iload_n 2, 1) := by decide +kernel
theorem dX12_shortestDelay_10 : decode cX12_shortestDelay 10 = .ok (.invokevirtual 85, 3) := by decide +kernel
theorem dX12_shortestDelay_13 : decode cX12_shortestDelay 13 = .ok (.ifCond .ne 9, 3) := by decide +kernel
theorem dX12_shortestDelay_16 : decode cX12_shortestDelay 16 = .ok (.aload_n 0, 1) := by decide +kernel
theorem dX12_shortestDelay_17 : decode cX12_shortestDelay 17 = .ok (.iconst 1, 1) := by decide +kernel
theorem dX12_shortestDelay_18 : decode cX12_shortestDelay 18 = .ok (.invokevirtual 71, 3) := by decide +kernel
theorem dX12_shortestDelay_21 : decode cX12_shortestDelay 21 = .ok (.ireturn, 1) := by decide +kernel
theorem dX12_shortestDelay_22 : decode cX12_shortestDelay 22 = .ok (.aload_n 0, 1) := by decide +kernel
theorem dX12_shortestDelay_23 : decode cX12_shortestDelay 23 = .ok (.iload_n 1, 1) := by decide +kernel
theorem dX12_shortestDelay_24 : decode cX12_shortestDelay 24 = .ok (.invokevirtual 99, 3) := by decide +kernel
theorem dX12_shortestDelay_27 : decode cX12_shortestDelay 27 = .ok (.aload_n 0, 1) := by decide +kernel
theorem dX12_shortestDelay_28 : decode cX12_shortestDelay 28 = .ok (.aload_n 0, 1) := by decide +kernel
theorem dX12_shortestDelay_29 : decode cX12_shortestDelay 29 = .ok (.getfield 25, 3) := by decide +kernel
theorem dX12_shortestDelay_32 : decode cX12_shortestDelay 32 = .ok (.iload_n 2, 1) := by decide +kernel
theorem dX12_shortestDelay_33 : decode cX12_shortestDelay 33 = .ok (.iaload, 1) := by decide +kernel
theorem dX12_shortestDelay_34 : decode cX12_shortestDelay 34 = .ok (.sipush 1000, 3) := by decide +kernel
theorem dX12_shortestDelay_37 : decode cX12_shortestDelay 37 = .ok (.if_icmp .ne 7, 3) := by decide +kernel
theorem dX12_shortestDelay_40 : decode cX12_shortestDelay 40 = .ok (.iconst 2, 1) := by decide +kernel
theorem dX12_shortestDelay_41 : decode cX12_shortestDelay 41 = .ok (.goto 4, 3) := by decide +kernel
theorem dX12_shortestDelay_44 : decode cX12_shortestDelay 44 = .ok (.iconst 0, 1) := by decide +kernel
theorem dX12_shortestDelay_45 : decode cX12_shortestDelay 45 = .ok (.putfield 45, 3) := by decide +kernel
theorem dX12_shortestDelay_48 : decode cX12_shortestDelay 48 = .ok (.aload_n 0, 1) := by decide +kernel
theorem dX12_shortestDelay_49 : decode cX12_shortestDelay 49 = .ok (.getfield 45, 3) := by decide +kernel
theorem dX12_shortestDelay_52 : decode cX12_shortestDelay 52 = .ok (.ifCond .le 7, 3) := by decide +kernel
theorem dX12_shortestDelay_55 : decode cX12_shortestDelay 55 = .ok (.iconst 0, 1) := by decide +kernel
theorem dX12_shortestDelay_56 : decode cX12_shortestDelay 56 = .ok (.goto 9, 3) := by decide +kernel
theorem dX12_shortestDelay_59 : decode cX12_shortestDelay 59 = .ok (.aload_n 0, 1) := by decide +kernel
theorem dX12_shortestDelay_60 : decode cX12_shortestDelay 60 = .ok (.getfield 25, 3) := by decide +kernel
theorem dX12_shortestDelay_63 : decode cX12_shortestDelay 63 = .ok (.iload_n 2, 1) := by decide +kernel
theorem dX12_shortestDelay_64 : decode cX12_shortestDelay 64 = .ok (.iaload, 1) := by decide +kernel
theorem dX12_shortestDelay_65 : decode cX12_shortestDelay 65 = .ok (.ireturn, 1) := by decide +kernel
theorem dX12_shortestDelayBySearch_0 : decode cX12_shortestDelayBySearch 0 = .ok (.aload_n 0, 1) := by decide +kernel
theorem dX12_shortestDelayBySearch_1 : decode cX12_shortestDelayBySearch 1 = .ok (.iload_n 1, 1) := by decide +kernel
theorem dX12_shortestDelayBySearch_2 : decode cX12_shortestDelayBySearch 2 = .ok (.iload_n 2, 1) := by decide +kernel
theorem dX12_shortestDelayBySearch_3 : decode cX12_shortestDelayBySearch 3 = .ok (.invokevirtual 103, 3) := by decide +kernel
theorem dX12_shortestDelayBySearch_6 : decode cX12_shortestDelayBySearch 6 = .ok (.ireturn, 1) := by decide +kernel
theorem dX12_loud_0 : decode cX12_loud 0 = .ok (.aload_n 0, 1) := by decide +kernel
theorem dX12_loud_1 : decode cX12_loud 1 = .ok (.iload_n 1, 1) := by decide +kernel
theorem dX12_loud_2 : decode cX12_loud 2 = .ok (.invokevirtual 99, 3) := by decide +kernel
theorem dX12_loud_5 : decode cX12_loud 5 = .ok (.iload_n 1, 1) := by decide +kernel
theorem dX12_loud_6 : decode cX12_loud 6 = .ok (.iload_n 2, 1) := by decide +kernel
theorem dX12_loud_7 : decode cX12_loud 7 = .ok (.if_icmp .ne 7, 3) := by decide +kernel
theorem dX12_loud_10 : decode cX12_loud 10 = .ok (.fconst 1, 1) := by decide +kernel
theorem dX12_loud_11 : decode cX12_loud 11 = .ok (.goto 30, 3) := by decide +kernel
theorem dX12_loud_14 : decode cX12_loud 14 = .ok (.aload_n 0, 1) := by decide +kernel
theorem dX12_loud_15 : decode cX12_loud 15 = .ok (.getfield 25, 3) := by decide +kernel
theorem dX12_loud_18 : decode cX12_loud 18 = .ok (.iload_n 2, 1) := by decide +kernel
theorem dX12_loud_19 : decode cX12_loud 19 = .ok (.iaload, 1) := by decide +kernel
theorem dX12_loud_20 : decode cX12_loud 20 = .ok (.sipush 1000, 3) := by decide +kernel
theorem dX12_loud_23 : decode cX12_loud 23 = .ok (.if_icmp .ne 7, 3) := by decide +kernel
theorem dX12_loud_26 : decode cX12_loud 26 = .ok (.fconst 0, 1) := by decide +kernel
theorem dX12_loud_27 : decode cX12_loud 27 = .ok (.goto 14, 3) := by decide +kernel
theorem dX12_loud_30 : decode cX12_loud 30 = .ok (.fconst 1, 1) := by decide +kernel
theorem dX12_loud_31 : decode cX12_loud 31 = .ok (.fconst 1, 1) := by decide +kernel
theorem dX12_loud_32 : decode cX12_loud 32 = .ok (.aload_n 0, 1) := by decide +kernel
theorem dX12_loud_33 : decode cX12_loud 33 = .ok (.getfield 25, 3) := by decide +kernel
theorem dX12_loud_36 : decode cX12_loud 36 = .ok (.iload_n 2, 1) := by decide +kernel
theorem dX12_loud_37 : decode cX12_loud 37 = .ok (.iaload, 1) := by decide +kernel
theorem dX12_loud_38 : decode cX12_loud 38 = .ok (.i2f, 1) := by decide +kernel
theorem dX12_loud_39 : decode cX12_loud 39 = .ok (.fadd, 1) := by decide +kernel
theorem dX12_loud_40 : decode cX12_loud 40 = .ok (.fdiv, 1) := by decide +kernel
theorem dX12_loud_41 : decode cX12_loud 41 = .ok (.freturn, 1) := by decide +kernel
theorem dX12_loudness_0 : decode cX12_loudness 0 = .ok (.aload_n 0, 1) := by decide +kernel
theorem dX12_loudness_1 : decode cX12_loudness 1 = .ok (.aload_n 0, 1) := by decide +kernel
theorem dX12_loudness_2 : decode cX12_loudness 2 = .ok (.iload_n 1, 1) := by decide +kernel
theorem dX12_loudness_3 : decode cX12_loudness 3 = .ok (.invokevirtual 85, 3) := by decide +kernel
theorem dX12_loudness_6 : decode cX12_loudness 6 = .ok (.ifCond .eq 15, 3) := by decide +kernel
theorem dX12_loudness_9 : decode cX12_loudness 9 = .ok (.aload_n 0, 1) := by decide +kernel
theorem dX12_loudness_10 : decode cX12_loudness 10 = .ok (.iload_n 2, 1) := by decide +kernel
theorem dX12_loudness_11 : decode cX12_loudness 11 = .ok (.invokevirtual 85, 3) := by decide +kernel
theorem dX12_loudness_14 : decode cX12_loudness 14 = .ok (.ifCond .eq 7, 3) := by decide +kernel
theorem dX12_loudness_17 : decode cX12_loudness 17 = .ok (.iconst 1, 1) := by decide +kernel
theorem dX12_loudness_18 : decode cX12_loudness 18 = .ok (.goto 4, 3) := by decide +kernel
theorem dX12_loudness_21 : decode cX12_loudness 21 = .ok (.iconst 0, 1) := by decide +kernel
theorem dX12_loudness_22 : decode cX12_loudness 22 = .ok (.invokevirtual 106, 3) := by decide +kernel
theorem dX12_loudness_25 : decode cX12_loudness 25 = .ok (.ifCond .eq 12, 3) := by decide +kernel
theorem dX12_loudness_28 : decode cX12_loudness 28 = .ok (.aload_n 0, 1) := by decide +kernel
theorem dX12_loudness_29 : decode cX12_loudness 29 = .ok (.iload_n 1, 1) := by decide +kernel
theorem dX12_loudness_30 : decode cX12_loudness 30 = .ok (.iload_n 2, 1) := by decide +kernel
theorem dX12_loudness_31 : decode cX12_loudness 31 = .ok (.invokevirtual 110, 3) := by decide +kernel
theorem dX12_loudness_34 : decode cX12_loudness 34 = .ok (.goto 4, 3) := by decide +kernel
theorem dX12_loudness_37 : decode cX12_loudness 37 = .ok (.fconst 0, 1) := by decide +kernel
theorem dX12_loudness_38 : decode cX12_loudness 38 = .ok (.freturn, 1) := by decide +kernel
theorem dX12_loudnessBits_0 : decode cX12_loudnessBits 0 = .ok (.aload_n 0, 1) := by decide +kernel
theorem dX12_loudnessBits_1 : decode cX12_loudnessBits 1 = .ok (.iload_n 1, 1) := by decide +kernel
theorem dX12_loudnessBits_2 : decode cX12_loudnessBits 2 = .ok (.iload_n 2, 1) := by decide +kernel
theorem dX12_loudnessBits_3 : decode cX12_loudnessBits 3 = .ok (.invokevirtual 114, 3) := by decide +kernel
theorem dX12_loudnessBits_6 : decode cX12_loudnessBits 6 = .ok (.fstore_n 3, 1) := by decide +kernel
theorem dX12_loudnessBits_7 : decode cX12_loudnessBits 7 = .ok (.aload_n 0, 1) := by decide +kernel
theorem dX12_loudnessBits_8 : decode cX12_loudnessBits 8 = .ok (.getfield 45, 3) := by decide +kernel
theorem dX12_loudnessBits_11 : decode cX12_loudnessBits 11 = .ok (.ifCond .le 7, 3) := by decide +kernel
theorem dX12_loudnessBits_14 : decode cX12_loudnessBits 14 = .ok (.iconst 0, 1) := by decide +kernel
theorem dX12_loudnessBits_15 : decode cX12_loudnessBits 15 = .ok (.goto 7, 3) := by decide +kernel
theorem dX12_loudnessBits_18 : decode cX12_loudnessBits 18 = .ok (.fload_n 3, 1) := by decide +kernel
theorem dX12_loudnessBits_19 : decode cX12_loudnessBits 19 = .ok (.invokestatic 117, 3) := by decide +kernel
theorem dX12_loudnessBits_22 : decode cX12_loudnessBits 22 = .ok (.ireturn, 1) := by decide +kernel
theorem dX12_doAddHare_0 : decode cX12_doAddHare 0 = .ok (.aload_n 0, 1) := by decide +kernel
theorem dX12_doAddHare_1 : decode cX12_doAddHare 1 = .ok (.getfield 9, 3) := by decide +kernel
theorem dX12_doAddHare_4 : decode cX12_doAddHare 4 = .ok (.iconst 1, 1) := by decide +kernel
theorem dX12_doAddHare_5 : decode cX12_doAddHare 5 = .ok (.iaload, 1) := by decide +kernel
theorem dX12_doAddHare_6 : decode cX12_doAddHare 6 = .ok (.istore_n 2, 1) := by decide +kernel
theorem dX12_doAddHare_7 : decode cX12_doAddHare 7 = .ok (.aload_n 0, 1) := by decide +kernel
theorem dX12_doAddHare_8 : decode cX12_doAddHare 8 = .ok (.iload_n 1, 1) := by decide +kernel
theorem dX12_doAddHare_9 : decode cX12_doAddHare 9 = .ok (.invokevirtual 85, 3) := by decide +kernel
theorem dX12_doAddHare_12 : decode cX12_doAddHare 12 = .ok (.ifCond .ne 9, 3) := by decide +kernel
theorem dX12_doAddHare_15 : decode cX12_doAddHare 15 = .ok (.aload_n 0, 1) := by decide +kernel
theorem dX12_doAddHare_16 : decode cX12_doAddHare 16 = .ok (.iconst 1, 1) := by decide +kernel
theorem dX12_doAddHare_17 : decode cX12_doAddHare 17 = .ok (.invokevirtual 71, 3) := by decide +kernel
theorem dX12_doAddHare_20 : decode cX12_doAddHare 20 = .ok (.ireturn, 1) := by decide +kernel
theorem dX12_doAddHare_21 : decode cX12_doAddHare 21 = .ok (.iload_n 2, 1) := by decide +kernel
theorem dX12_doAddHare_22 : decode cX12_doAddHare 22 = .ok (.bipush 6, 2) := by decide +kernel
theorem dX12_doAddHare_24 : decode cX12_doAddHare 24 = .ok (.if_icmp .ne 9, 3) := by decide +kernel
theorem dX12_doAddHare_27 : decode cX12_doAddHare 27 = .ok (.aload_n 0, 1) := by decide +kernel
theorem dX12_doAddHare_28 : decode cX12_doAddHare 28 = .ok (.iconst 2, 1) := by decide +kernel
theorem dX12_doAddHare_29 : decode cX12_doAddHare 29 = .ok (.invokevirtual 71, 3) := by decide +kernel
theorem dX12_doAddHare_32 : decode cX12_doAddHare 32 = .ok (.ireturn, 1) := by decide +kernel
theorem dX12_doAddHare_33 : decode cX12_doAddHare 33 = .ok (.bipush 72, 2) := by decide +kernel
theorem dX12_doAddHare_35 : decode cX12_doAddHare 35 = .ok (.iconst 4, 1) := by decide +kernel
theorem dX12_doAddHare_36 : decode cX12_doAddHare 36 = .ok (.iload_n 2, 1) := by decide +kernel
theorem dX12_doAddHare_37 : decode cX12_doAddHare 37 = .ok (.imul, 1) := by decide +kernel
theorem dX12_doAddHare_38 : decode cX12_doAddHare 38 = .ok (.iadd, 1) := by decide +kernel
theorem dX12_doAddHare_39 : decode cX12_doAddHare 39 = .ok (.istore_n 3, 1) := by decide +kernel
theorem dX12_doAddHare_40 : decode cX12_doAddHare 40 = .ok (.aload_n 0, 1) := by decide +kernel
theorem dX12_doAddHare_41 : decode cX12_doAddHare 41 = .ok (.getfield 9, 3) := by decide +kernel
theorem dX12_doAddHare_44 : decode cX12_doAddHare 44 = .ok (.iload_n 3, 1) := by decide +kernel
theorem dX12_doAddHare_45 : decode cX12_doAddHare 45 = .ok (.iload_n 1, 1) := by decide +kernel
theorem dX12_doAddHare_46 : decode cX12_doAddHare 46 = .ok (.iastore, 1) := by decide +kernel
theorem dX12_doAddHare_47 : decode cX12_doAddHare 47 = .ok (.aload_n 0, 1) := by decide +kernel
theorem dX12_doAddHare_48 : decode cX12_doAddHare 48 = .ok (.getfield 9, 3) := by decide +kernel
theorem dX12_doAddHare_51 : decode cX12_doAddHare 51 = .ok (.iload_n 3, 1) := by decide +kernel
theorem dX12_doAddHare_52 : decode cX12_doAddHare 52 = .ok (.iconst 1, 1) := by decide +kernel
theorem dX12_doAddHare_53 : decode cX12_doAddHare 53 = .ok (.iadd, 1) := by decide +kernel
theorem dX12_doAddHare_54 : decode cX12_doAddHare 54 = .ok (.iconst 1, 1) := by decide +kernel
theorem dX12_doAddHare_55 : decode cX12_doAddHare 55 = .ok (.iastore, 1) := by decide +kernel
theorem dX12_doAddHare_56 : decode cX12_doAddHare 56 = .ok (.aload_n 0, 1) := by decide +kernel
theorem dX12_doAddHare_57 : decode cX12_doAddHare 57 = .ok (.getfield 9, 3) := by decide +kernel
theorem dX12_doAddHare_60 : decode cX12_doAddHare 60 = .ok (.iload_n 3, 1) := by decide +kernel
theorem dX12_doAddHare_61 : decode cX12_doAddHare 61 = .ok (.iconst 2, 1) := by decide +kernel
theorem dX12_doAddHare_62 : decode cX12_doAddHare 62 = .ok (.iadd, 1) := by decide +kernel
theorem dX12_doAddHare_63 : decode cX12_doAddHare 63 = .ok (.iconst 0, 1) := by decide +kernel
theorem dX12_doAddHare_64 : decode cX12_doAddHare 64 = .ok (.iastore, 1) := by decide +kernel
theorem dX12_doAddHare_65 : decode cX12_doAddHare 65 = .ok (.aload_n 0, 1) := by decide +kernel
theorem dX12_doAddHare_66 : decode cX12_doAddHare 66 = .ok (.getfield 9, 3) := by decide +kernel
theorem dX12_doAddHare_69 : decode cX12_doAddHare 69 = .ok (.iload_n 3, 1) := by decide +kernel
theorem dX12_doAddHare_70 : decode cX12_doAddHare 70 = .ok (.iconst 3, 1) := by decide +kernel
theorem dX12_doAddHare_71 : decode cX12_doAddHare 71 = .ok (.iadd, 1) := by decide +kernel
theorem dX12_doAddHare_72 : decode cX12_doAddHare 72 = .ok (.iconst 0, 1) := by decide +kernel
theorem dX12_doAddHare_73 : decode cX12_doAddHare 73 = .ok (.iastore, 1) := by decide +kernel
theorem dX12_doAddHare_74 : decode cX12_doAddHare 74 = .ok (.aload_n 0, 1) := by decide +kernel
theorem dX12_doAddHare_75 : decode cX12_doAddHare 75 = .ok (.getfield 9, 3) := by decide +kernel
theorem dX12_doAddHare_78 : decode cX12_doAddHare 78 = .ok (.iconst 1, 1) := by decide +kernel
theorem dX12_doAddHare_79 : decode cX12_doAddHare 79 = .ok (.dup2, 1) := by decide +kernel
theorem dX12_doAddHare_80 : decode cX12_doAddHare 80 = .ok (.iaload, 1) := by decide +kernel
theorem dX12_doAddHare_81 : decode cX12_doAddHare 81 = .ok (.iconst 1, 1) := by decide +kernel
theorem dX12_doAddHare_82 : decode cX12_doAddHare 82 = .ok (.iadd, 1) := by decide +kernel
theorem dX12_doAddHare_83 : decode cX12_doAddHare 83 = .ok (.iastore, 1) := by decide +kernel
theorem dX12_doAddHare_84 : decode cX12_doAddHare 84 = .ok (.iload_n 2, 1) := by decide +kernel
theorem dX12_doAddHare_85 : decode cX12_doAddHare 85 = .ok (.ireturn, 1) := by decide +kernel
theorem dX12_addHare_0 : decode cX12_addHare 0 = .ok (.aload_n 0, 1) := by decide +kernel
theorem dX12_addHare_1 : decode cX12_addHare 1 = .ok (.invokevirtual 75, 3) := by decide +kernel
theorem dX12_addHare_4 : decode cX12_addHare 4 = .ok (.aload_n 0, 1) := by decide +kernel
theorem dX12_addHare_5 : decode cX12_addHare 5 = .ok (.aload_n 0, 1) := by decide +kernel
theorem dX12_addHare_6 : decode cX12_addHare 6 = .ok (.iload_n 1, 1) := by decide +kernel
theorem dX12_addHare_7 : decode cX12_addHare 7 = .ok (.invokevirtual 123, 3) := by decide +kernel
theorem dX12_addHare_10 : decode cX12_addHare 10 = .ok (.invokevirtual 82, 3) := by decide +kernel
theorem dX12_addHare_13 : decode cX12_addHare 13 = .ok (.ireturn, 1) := by decide +kernel
theorem dX12_drums_0 : decode cX12_drums 0 = .ok (.iconst 0, 1) := by decide +kernel
theorem dX12_drums_1 : decode cX12_drums 1 = .ok (.istore_n 2, 1) := by decide +kernel
theorem dX12_drums_2 : decode cX12_drums 2 = .ok (.iconst 0, 1) := by decide +kernel
theorem dX12_drums_3 : decode cX12_drums 3 = .ok (.istore_n 3, 1) := by decide +kernel
theorem dX12_drums_4 : decode cX12_drums 4 = .ok (.iload_n 3, 1) := by decide +kernel
theorem dX12_drums_5 : decode cX12_drums 5 = .ok (.aload_n 0, 1) := by decide +kernel
theorem dX12_drums_6 : decode cX12_drums 6 = .ok (.getfield 9, 3) := by decide +kernel
theorem dX12_drums_9 : decode cX12_drums 9 = .ok (.iconst 2, 1) := by decide +kernel
theorem dX12_drums_10 : decode cX12_drums 10 = .ok (.iaload, 1) := by decide +kernel
theorem dX12_drums_11 : decode cX12_drums 11 = .ok (.if_icmp .ge 40, 3) := by decide +kernel
theorem dX12_drums_14 : decode cX12_drums 14 = .ok (.iload_n 2, 1) := by decide +kernel
theorem dX12_drums_15 : decode cX12_drums 15 = .ok (.ifCond .ne 24, 3) := by decide +kernel
theorem dX12_drums_18 : decode cX12_drums 18 = .ok (.aload_n 0, 1) := by decide +kernel
theorem dX12_drums_19 : decode cX12_drums 19 = .ok (.iload_n 3, 1) := by decide +kernel
theorem dX12_drums_20 : decode cX12_drums 20 = .ok (.iconst 4, 1) := by decide +kernel
theorem dX12_drums_21 : decode cX12_drums 21 = .ok (.invokevirtual 61, 3) := by decide +kernel
theorem dX12_drums_24 : decode cX12_drums 24 = .ok (.bipush 100, 2) := by decide +kernel
theorem dX12_drums_26 : decode cX12_drums 26 = .ok (.if_icmp .ne 17, 3) := by decide +kernel
theorem dX12_drums_29 : decode cX12_drums 29 = .ok (.aload_n 0, 1) := by decide +kernel
theorem dX12_drums_30 : decode cX12_drums 30 = .ok (.iload_n 3, 1) := by decide +kernel
theorem dX12_drums_31 : decode cX12_drums 31 = .ok (.iconst 1, 1) := by decide +kernel
theorem dX12_drums_32 : decode cX12_drums 32 = .ok (.invokevirtual 61, 3) := by decide +kernel
theorem dX12_drums_35 : decode cX12_drums 35 = .ok (.iload_n 1, 1) := by decide +kernel
theorem dX12_drums_36 : decode cX12_drums 36 = .ok (.if_icmp .ne 7, 3) := by decide +kernel
theorem dX12_drums_39 : decode cX12_drums 39 = .ok (.iconst 1, 1) := by decide +kernel
theorem dX12_drums_40 : decode cX12_drums 40 = .ok (.goto 4, 3) := by decide +kernel
theorem dX12_drums_43 : decode cX12_drums 43 = .ok (.iconst 0, 1) := by decide +kernel
theorem dX12_drums_44 : decode cX12_drums 44 = .ok (.istore_n 2, 1) := by decide +kernel
theorem dX12_drums_45 : decode cX12_drums 45 = .ok (.iinc 3 1, 3) := by decide +kernel
theorem dX12_drums_48 : decode cX12_drums 48 = .ok (.goto (-44), 3) := by decide +kernel
theorem dX12_drums_51 : decode cX12_drums 51 = .ok (.iload_n 2, 1) := by decide +kernel
theorem dX12_drums_52 : decode cX12_drums 52 = .ok (.ireturn, 1) := by decide +kernel
theorem dX12_doMove_0 : decode cX12_doMove 0 = .ok (.aload_n 0, 1) := by decide +kernel
theorem dX12_doMove_1 : decode cX12_doMove 1 = .ok (.iload_n 1, 1) := by decide +kernel
theorem dX12_doMove_2 : decode cX12_doMove 2 = .ok (.invokevirtual 126, 3) := by decide +kernel
theorem dX12_doMove_5 : decode cX12_doMove 5 = .ok (.ifCond .eq 11, 3) := by decide +kernel
theorem dX12_doMove_8 : decode cX12_doMove 8 = .ok (.aload_n 0, 1) := by decide +kernel
theorem dX12_doMove_9 : decode cX12_doMove 9 = .ok (.iload_n 2, 1) := by decide +kernel
theorem dX12_doMove_10 : decode cX12_doMove 10 = .ok (.invokevirtual 85, 3) := by decide +kernel
theorem dX12_doMove_13 : decode cX12_doMove 13 = .ok (.ifCond .ne 9, 3) := by decide +kernel
theorem dX12_doMove_16 : decode cX12_doMove 16 = .ok (.aload_n 0, 1) := by decide +kernel
theorem dX12_doMove_17 : decode cX12_doMove 17 = .ok (.iconst 1, 1) := by decide +kernel
theorem dX12_doMove_18 : decode cX12_doMove 18 = .ok (.invokevirtual 71, 3) := by decide +kernel
theorem dX12_doMove_21 : decode cX12_doMove 21 = .ok (.ireturn, 1) := by decide +kernel
theorem dX12_doMove_22 : decode cX12_doMove 22 = .ok (.aload_n 0, 1) := by decide +kernel
theorem dX12_doMove_23 : decode cX12_doMove 23 = .ok (.iload_n 1, 1) := by decide +kernel
theorem dX12_doMove_24 : decode cX12_doMove 24 = .ok (.invokevirtual 129, 3) := by decide +kernel
theorem dX12_doMove_27 : decode cX12_doMove 27 = .ok (.ifCond .eq 9, 3) := by decide +kernel
theorem dX12_doMove_30 : decode cX12_doMove 30 = .ok (.aload_n 0, 1) := by decide +kernel
theorem dX12_doMove_31 : decode cX12_doMove 31 = .ok (.iconst 2, 1) := by decide +kernel
theorem dX12_doMove_32 : decode cX12_doMove 32 = .ok (.invokevirtual 71, 3) := by decide +kernel
theorem dX12_doMove_35 : decode cX12_doMove 35 = .ok (.ireturn, 1) := by decide +kernel
theorem dX12_doMove_36 : decode cX12_doMove 36 = .ok (.aload_n 0, 1) := by decide +kernel
theorem dX12_doMove_37 : decode cX12_doMove 37 = .ok (.iload_n 1, 1) := by decide +kernel
theorem dX12_doMove_38 : decode cX12_doMove 38 = .ok (.iconst 0, 1) := by decide +kernel
theorem dX12_doMove_39 : decode cX12_doMove 39 = .ok (.invokevirtual 65, 3) := by decide +kernel
theorem dX12_doMove_42 : decode cX12_doMove 42 = .ok (.istore_n 3, 1) := by decide +kernel
theorem dX12_doMove_43 : decode cX12_doMove 43 = .ok (.aload_n 0, 1) := by decide +kernel
theorem dX12_doMove_44 : decode cX12_doMove 44 = .ok (.getfield 9, 3) := by decide +kernel
theorem dX12_doMove_47 : decode cX12_doMove 47 = .ok (.bipush 72, 2) := by decide +kernel
theorem dX12_doMove_49 : decode cX12_doMove 49 = .ok (.iconst 4, 1) := by decide +kernel
theorem dX12_doMove_50 : decode cX12_doMove 50 = .ok (.iload_n 1, 1) := by decide +kernel
theorem dX12_doMove_51 : decode cX12_doMove 51 = .ok (.imul, 1) := by decide +kernel
theorem dX12_doMove_52 : decode cX12_doMove 52 = .ok (.iadd, 1) := by decide +kernel
theorem dX12_doMove_53 : decode cX12_doMove 53 = .ok (.iload_n 2, 1) := by decide +kernel
theorem dX12_doMove_54 : decode cX12_doMove 54 = .ok (.iastore, 1) := by decide +kernel
theorem dX12_doMove_55 : decode cX12_doMove 55 = .ok (.iload_n 3, 1) := by decide +kernel
theorem dX12_doMove_56 : decode cX12_doMove 56 = .ok (.ireturn, 1) := by decide +kernel
theorem dX12_move_0 : decode cX12_move 0 = .ok (.aload_n 0, 1) := by decide +kernel
theorem dX12_move_1 : decode cX12_move 1 = .ok (.invokevirtual 75, 3) := by decide +kernel
theorem dX12_move_4 : decode cX12_move 4 = .ok (.aload_n 0, 1) := by decide +kernel
theorem dX12_move_5 : decode cX12_move 5 = .ok (.aload_n 0, 1) := by decide +kernel
theorem dX12_move_6 : decode cX12_move 6 = .ok (.iload_n 1, 1) := by decide +kernel
theorem dX12_move_7 : decode cX12_move 7 = .ok (.iload_n 2, 1) := by decide +kernel
theorem dX12_move_8 : decode cX12_move 8 = .ok (.invokevirtual 132, 3) := by decide +kernel
theorem dX12_move_11 : decode cX12_move 11 = .ok (.invokevirtual 82, 3) := by decide +kernel
theorem dX12_move_14 : decode cX12_move 14 = .ok (.ireturn, 1) := by decide +kernel
theorem dX12_doListen_0 : decode cX12_doListen 0 = .ok (.aload_n 0, 1) := by decide +kernel
theorem dX12_doListen_1 : decode cX12_doListen 1 = .ok (.iload_n 1, 1) := by decide +kernel
theorem dX12_doListen_2 : decode cX12_doListen 2 = .ok (.invokevirtual 126, 3) := by decide +kernel
theorem dX12_doListen_5 : decode cX12_doListen 5 = .ok (.ifCond .ne 9, 3) := by decide +kernel
theorem dX12_doListen_8 : decode cX12_doListen 8 = .ok (.aload_n 0, 1) := by decide +kernel
theorem dX12_doListen_9 : decode cX12_doListen 9 = .ok (.iconst 1, 1) := by decide +kernel
theorem dX12_doListen_10 : decode cX12_doListen 10 = .ok (.invokevirtual 71, 3) := by decide +kernel
theorem dX12_doListen_13 : decode cX12_doListen 13 = .ok (.ireturn, 1) := by decide +kernel
theorem dX12_doListen_14 : decode cX12_doListen 14 = .ok (.aload_n 0, 1) := by decide +kernel
theorem dX12_doListen_15 : decode cX12_doListen 15 = .ok (.iload_n 1, 1) := by decide +kernel
theorem dX12_doListen_16 : decode cX12_doListen 16 = .ok (.iconst 1, 1) := by decide +kernel
theorem dX12_doListen_17 : decode cX12_doListen 17 = .ok (.invokevirtual 65, 3) := by decide +kernel
theorem dX12_doListen_20 : decode cX12_doListen 20 = .ok (.istore_n 3, 1) := by decide +kernel
theorem dX12_doListen_21 : decode cX12_doListen 21 = .ok (.aload_n 0, 1) := by decide +kernel
theorem dX12_doListen_22 : decode cX12_doListen 22 = .ok (.getfield 9, 3) := by decide +kernel
theorem dX12_doListen_25 : decode cX12_doListen 25 = .ok (.bipush 72, 2) := by decide +kernel
theorem dX12_doListen_27 : decode cX12_doListen 27 = .ok (.iconst 4, 1) := by decide +kernel
theorem dX12_doListen_28 : decode cX12_doListen 28 = .ok (.iload_n 1, 1) := by decide +kernel
theorem dX12_doListen_29 : decode cX12_doListen 29 = .ok (.imul, 1) := by decide +kernel
theorem dX12_doListen_30 : decode cX12_doListen 30 = .ok (.iadd, 1) := by decide +kernel
theorem dX12_doListen_31 : decode cX12_doListen 31 = .ok (.iconst 1, 1) := by decide +kernel
theorem dX12_doListen_32 : decode cX12_doListen 32 = .ok (.iadd, 1) := by decide +kernel
theorem dX12_doListen_33 : decode cX12_doListen 33 = .ok (.iload_n 2, 1) := by decide +kernel
theorem dX12_doListen_34 : decode cX12_doListen 34 = .ok (.ifCond .eq 7, 3) := by decide +kernel
theorem dX12_doListen_37 : decode cX12_doListen 37 = .ok (.iconst 1, 1) := by decide +kernel
theorem dX12_doListen_38 : decode cX12_doListen 38 = .ok (.goto 4, 3) := by decide +kernel
theorem dX12_doListen_41 : decode cX12_doListen 41 = .ok (.iconst 0, 1) := by decide +kernel
theorem dX12_doListen_42 : decode cX12_doListen 42 = .ok (.iastore, 1) := by decide +kernel
theorem dX12_doListen_43 : decode cX12_doListen 43 = .ok (.iload_n 3, 1) := by decide +kernel
theorem dX12_doListen_44 : decode cX12_doListen 44 = .ok (.ireturn, 1) := by decide +kernel
theorem dX12_setListening_0 : decode cX12_setListening 0 = .ok (.aload_n 0, 1) := by decide +kernel
theorem dX12_setListening_1 : decode cX12_setListening 1 = .ok (.invokevirtual 75, 3) := by decide +kernel
theorem dX12_setListening_4 : decode cX12_setListening 4 = .ok (.aload_n 0, 1) := by decide +kernel
theorem dX12_setListening_5 : decode cX12_setListening 5 = .ok (.aload_n 0, 1) := by decide +kernel
theorem dX12_setListening_6 : decode cX12_setListening 6 = .ok (.iload_n 1, 1) := by decide +kernel
theorem dX12_setListening_7 : decode cX12_setListening 7 = .ok (.iload_n 2, 1) := by decide +kernel
theorem dX12_setListening_8 : decode cX12_setListening 8 = .ok (.invokevirtual 135, 3) := by decide +kernel
theorem dX12_setListening_11 : decode cX12_setListening 11 = .ok (.invokevirtual 82, 3) := by decide +kernel
theorem dX12_setListening_14 : decode cX12_setListening 14 = .ok (.iconst 1, 1) := by decide +kernel
theorem dX12_setListening_15 : decode cX12_setListening 15 = .ok (.if_icmp .ne 7, 3) := by decide +kernel
theorem dX12_setListening_18 : decode cX12_setListening 18 = .ok (.iconst 1, 1) := by decide +kernel
theorem dX12_setListening_19 : decode cX12_setListening 19 = .ok (.goto 4, 3) := by decide +kernel
theorem dX12_setListening_22 : decode cX12_setListening 22 = .ok (.iconst 0, 1) := by decide +kernel
theorem dX12_setListening_23 : decode cX12_setListening 23 = .ok (.ireturn, 1) := by decide +kernel
theorem dX12_hareCount_0 : decode cX12_hareCount 0 = .ok (.aload_n 0, 1) := by decide +kernel
theorem dX12_hareCount_1 : decode cX12_hareCount 1 = .ok (.iconst 0, 1) := by decide +kernel
theorem dX12_hareCount_2 : decode cX12_hareCount 2 = .ok (.putfield 45, 3) := by decide +kernel
theorem dX12_hareCount_5 : decode cX12_hareCount 5 = .ok (.aload_n 0, 1) := by decide +kernel
theorem dX12_hareCount_6 : decode cX12_hareCount 6 = .ok (.getfield 9, 3) := by decide +kernel
theorem dX12_hareCount_9 : decode cX12_hareCount 9 = .ok (.iconst 1, 1) := by decide +kernel
theorem dX12_hareCount_10 : decode cX12_hareCount 10 = .ok (.iaload, 1) := by decide +kernel
theorem dX12_hareCount_11 : decode cX12_hareCount 11 = .ok (.ireturn, 1) := by decide +kernel
theorem dX12_chamberOf_0 : decode cX12_chamberOf 0 = .ok (.aload_n 0, 1) := by decide +kernel
theorem dX12_chamberOf_1 : decode cX12_chamberOf 1 = .ok (.aload_n 0, 1) := by decide +kernel
theorem dX12_chamberOf_2 : decode cX12_chamberOf 2 = .ok (.iload_n 1, 1) := by decide +kernel
theorem dX12_chamberOf_3 : decode cX12_chamberOf 3 = .ok (.invokevirtual 126, 3) := by decide +kernel
theorem dX12_chamberOf_6 : decode cX12_chamberOf 6 = .ok (.invokevirtual 106, 3) := by decide +kernel
theorem dX12_chamberOf_9 : decode cX12_chamberOf 9 = .ok (.ifCond .eq 12, 3) := by decide +kernel
theorem dX12_chamberOf_12 : decode cX12_chamberOf 12 = .ok (.aload_n 0, 1) := by decide +kernel
theorem dX12_chamberOf_13 : decode cX12_chamberOf 13 = .ok (.iload_n 1, 1) := by decide +kernel
theorem dX12_chamberOf_14 : decode cX12_chamberOf 14 = .ok (.iconst 0, 1) := by decide +kernel
theorem dX12_chamberOf_15 : decode cX12_chamberOf 15 = .ok (.invokevirtual 65, 3) := by decide +kernel
theorem dX12_chamberOf_18 : decode cX12_chamberOf 18 = .ok (.goto 4, 3) := by decide +kernel
theorem dX12_chamberOf_21 : decode cX12_chamberOf 21 = .ok (.iconst 0, 1) := by decide +kernel
theorem dX12_chamberOf_22 : decode cX12_chamberOf 22 = .ok (.ireturn, 1) := by decide +kernel
theorem dX12_isListening_0 : decode cX12_isListening 0 = .ok (.aload_n 0, 1) := by decide +kernel
theorem dX12_isListening_1 : decode cX12_isListening 1 = .ok (.aload_n 0, 1) := by decide +kernel
theorem dX12_isListening_2 : decode cX12_isListening 2 = .ok (.iload_n 1, 1) := by decide +kernel
theorem dX12_isListening_3 : decode cX12_isListening 3 = .ok (.invokevirtual 126, 3) := by decide +kernel
theorem dX12_isListening_6 : decode cX12_isListening 6 = .ok (.invokevirtual 106, 3) := by decide +kernel
theorem dX12_isListening_9 : decode cX12_isListening 9 = .ok (.ifCond .eq 17, 3) := by decide +kernel
theorem dX12_isListening_12 : decode cX12_isListening 12 = .ok (.aload_n 0, 1) := by decide +kernel
theorem dX12_isListening_13 : decode cX12_isListening 13 = .ok (.iload_n 1, 1) := by decide +kernel
theorem dX12_isListening_14 : decode cX12_isListening 14 = .ok (.iconst 1, 1) := by decide +kernel
theorem dX12_isListening_15 : decode cX12_isListening 15 = .ok (.invokevirtual 65, 3) := by decide +kernel
theorem dX12_isListening_18 : decode cX12_isListening 18 = .ok (.iconst 1, 1) := by decide +kernel
theorem dX12_isListening_19 : decode cX12_isListening 19 = .ok (.if_icmp .ne 7, 3) := by decide +kernel
theorem dX12_isListening_22 : decode cX12_isListening 22 = .ok (.iconst 1, 1) := by decide +kernel
theorem dX12_isListening_23 : decode cX12_isListening 23 = .ok (.goto 4, 3) := by decide +kernel
theorem dX12_isListening_26 : decode cX12_isListening 26 = .ok (.iconst 0, 1) := by decide +kernel
theorem dX12_isListening_27 : decode cX12_isListening 27 = .ok (.ireturn, 1) := by decide +kernel
theorem dX12_isDrumming_0 : decode cX12_isDrumming 0 = .ok (.aload_n 0, 1) := by decide +kernel
theorem dX12_isDrumming_1 : decode cX12_isDrumming 1 = .ok (.aload_n 0, 1) := by decide +kernel
theorem dX12_isDrumming_2 : decode cX12_isDrumming 2 = .ok (.iload_n 1, 1) := by decide +kernel
theorem dX12_isDrumming_3 : decode cX12_isDrumming 3 = .ok (.invokevirtual 126, 3) := by decide +kernel
theorem dX12_isDrumming_6 : decode cX12_isDrumming 6 = .ok (.invokevirtual 106, 3) := by decide +kernel
theorem dX12_isDrumming_9 : decode cX12_isDrumming 9 = .ok (.ifCond .eq 15, 3) := by decide +kernel
theorem dX12_isDrumming_12 : decode cX12_isDrumming 12 = .ok (.aload_n 0, 1) := by decide +kernel
theorem dX12_isDrumming_13 : decode cX12_isDrumming 13 = .ok (.iload_n 1, 1) := by decide +kernel
theorem dX12_isDrumming_14 : decode cX12_isDrumming 14 = .ok (.invokevirtual 129, 3) := by decide +kernel
theorem dX12_isDrumming_17 : decode cX12_isDrumming 17 = .ok (.ifCond .eq 7, 3) := by decide +kernel
theorem dX12_isDrumming_20 : decode cX12_isDrumming 20 = .ok (.iconst 1, 1) := by decide +kernel
theorem dX12_isDrumming_21 : decode cX12_isDrumming 21 = .ok (.goto 4, 3) := by decide +kernel
theorem dX12_isDrumming_24 : decode cX12_isDrumming 24 = .ok (.iconst 0, 1) := by decide +kernel
theorem dX12_isDrumming_25 : decode cX12_isDrumming 25 = .ok (.ireturn, 1) := by decide +kernel
theorem dX12_received_0 : decode cX12_received 0 = .ok (.aload_n 0, 1) := by decide +kernel
theorem dX12_received_1 : decode cX12_received 1 = .ok (.aload_n 0, 1) := by decide +kernel
theorem dX12_received_2 : decode cX12_received 2 = .ok (.iload_n 1, 1) := by decide +kernel
theorem dX12_received_3 : decode cX12_received 3 = .ok (.invokevirtual 126, 3) := by decide +kernel
theorem dX12_received_6 : decode cX12_received 6 = .ok (.invokevirtual 106, 3) := by decide +kernel
theorem dX12_received_9 : decode cX12_received 9 = .ok (.ifCond .eq 12, 3) := by decide +kernel
theorem dX12_received_12 : decode cX12_received 12 = .ok (.aload_n 0, 1) := by decide +kernel
theorem dX12_received_13 : decode cX12_received 13 = .ok (.iload_n 1, 1) := by decide +kernel
theorem dX12_received_14 : decode cX12_received 14 = .ok (.iconst 2, 1) := by decide +kernel
theorem dX12_received_15 : decode cX12_received 15 = .ok (.invokevirtual 65, 3) := by decide +kernel
theorem dX12_received_18 : decode cX12_received 18 = .ok (.goto 4, 3) := by decide +kernel
theorem dX12_received_21 : decode cX12_received 21 = .ok (.iconst 0, 1) := by decide +kernel
theorem dX12_received_22 : decode cX12_received 22 = .ok (.ireturn, 1) := by decide +kernel
theorem dX12_latestNumber_0 : decode cX12_latestNumber 0 = .ok (.aload_n 0, 1) := by decide +kernel
theorem dX12_latestNumber_1 : decode cX12_latestNumber 1 = .ok (.aload_n 0, 1) := by decide +kernel
theorem dX12_latestNumber_2 : decode cX12_latestNumber 2 = .ok (.iload_n 1, 1) := by decide +kernel
theorem dX12_latestNumber_3 : decode cX12_latestNumber 3 = .ok (.invokevirtual 126, 3) := by decide +kernel
theorem dX12_latestNumber_6 : decode cX12_latestNumber 6 = .ok (.ifCond .ne 7, 3) := by decide +kernel
theorem dX12_latestNumber_9 : decode cX12_latestNumber 9 = .ok (.iconst 1, 1) := by decide +kernel
theorem dX12_latestNumber_10 : decode cX12_latestNumber 10 = .ok (.goto 17, 3) := by decide +kernel
theorem dX12_latestNumber_13 : decode cX12_latestNumber 13 = .ok (.aload_n 0, 1) := by decide +kernel
theorem dX12_latestNumber_14 : decode cX12_latestNumber 14 = .ok (.iload_n 1, 1) := by decide +kernel
theorem dX12_latestNumber_15 : decode cX12_latestNumber 15 = .ok (.iconst 3, 1) := by decide +kernel
theorem dX12_latestNumber_16 : decode cX12_latestNumber 16 = .ok (.invokevirtual 65, 3) := by decide +kernel
theorem dX12_latestNumber_19 : decode cX12_latestNumber 19 = .ok (.ifCond .ne 7, 3) := by decide +kernel
theorem dX12_latestNumber_22 : decode cX12_latestNumber 22 = .ok (.iconst 2, 1) := by decide +kernel
theorem dX12_latestNumber_23 : decode cX12_latestNumber 23 = .ok (.goto 4, 3) := by decide +kernel
theorem dX12_latestNumber_26 : decode cX12_latestNumber 26 = .ok (.iconst 0, 1) := by decide +kernel
theorem dX12_latestNumber_27 : decode cX12_latestNumber 27 = .ok (.putfield 45, 3) := by decide +kernel
theorem dX12_latestNumber_30 : decode cX12_latestNumber 30 = .ok (.aload_n 0, 1) := by decide +kernel
theorem dX12_latestNumber_31 : decode cX12_latestNumber 31 = .ok (.getfield 45, 3) := by decide +kernel
theorem dX12_latestNumber_34 : decode cX12_latestNumber 34 = .ok (.ifCond .le 7, 3) := by decide +kernel
theorem dX12_latestNumber_37 : decode cX12_latestNumber 37 = .ok (.iconst 0, 1) := by decide +kernel
theorem dX12_latestNumber_38 : decode cX12_latestNumber 38 = .ok (.goto 11, 3) := by decide +kernel
theorem dX12_latestNumber_41 : decode cX12_latestNumber 41 = .ok (.aload_n 0, 1) := by decide +kernel
theorem dX12_latestNumber_42 : decode cX12_latestNumber 42 = .ok (.iload_n 1, 1) := by decide +kernel
theorem dX12_latestNumber_43 : decode cX12_latestNumber 43 = .ok (.iconst 3, 1) := by decide +kernel
theorem dX12_latestNumber_44 : decode cX12_latestNumber 44 = .ok (.invokevirtual 65, 3) := by decide +kernel
theorem dX12_latestNumber_47 : decode cX12_latestNumber 47 = .ok (.iconst 1, 1) := by decide +kernel
theorem dX12_latestNumber_48 : decode cX12_latestNumber 48 = .ok (.isub, 1) := by decide +kernel
theorem dX12_latestNumber_49 : decode cX12_latestNumber 49 = .ok (.ireturn, 1) := by decide +kernel
theorem dX12_hareByReceived_0 : decode cX12_hareByReceived 0 = .ok (.iconst 0, 1) := by decide +kernel
theorem dX12_hareByReceived_1 : decode cX12_hareByReceived 1 = .ok (.istore_n 2, 1) := by decide +kernel
theorem dX12_hareByReceived_2 : decode cX12_hareByReceived 2 = .ok (.aload_n 0, 1) := by decide +kernel
theorem dX12_hareByReceived_3 : decode cX12_hareByReceived 3 = .ok (.aload_n 0, 1) := by decide +kernel
theorem dX12_hareByReceived_4 : decode cX12_hareByReceived 4 = .ok (.iload_n 1, 1) := by decide +kernel
theorem dX12_hareByReceived_5 : decode cX12_hareByReceived 5 = .ok (.invokevirtual 126, 3) := by decide +kernel
theorem dX12_hareByReceived_8 : decode cX12_hareByReceived 8 = .ok (.invokevirtual 106, 3) := by decide +kernel
theorem dX12_hareByReceived_11 : decode cX12_hareByReceived 11 = .ok (.istore_n 3, 1) := by decide +kernel
theorem dX12_hareByReceived_12 : decode cX12_hareByReceived 12 = .ok (.iconst 0, 1) := by decide +kernel
theorem dX12_hareByReceived_13 : decode cX12_hareByReceived 13 = .ok (.istore 4, 2) := by decide +kernel
theorem dX12_hareByReceived_15 : decode cX12_hareByReceived 15 = .ok (.iload 4, 2) := by decide +kernel
theorem dX12_hareByReceived_17 : decode cX12_hareByReceived 17 = .ok (.aload_n 0, 1) := by decide +kernel
theorem dX12_hareByReceived_18 : decode cX12_hareByReceived 18 = .ok (.getfield 9, 3) := by decide +kernel
theorem dX12_hareByReceived_21 : decode cX12_hareByReceived 21 = .ok (.iconst 1, 1) := by decide +kernel
theorem dX12_hareByReceived_22 : decode cX12_hareByReceived 22 = .ok (.iaload, 1) := by decide +kernel
theorem dX12_hareByReceived_23 : decode cX12_hareByReceived 23 = .ok (.if_icmp .ge 93, 3) := by decide +kernel
theorem dX12_hareByReceived_26 : decode cX12_hareByReceived 26 = .ok (.iload_n 3, 1) := by decide +kernel
theorem dX12_hareByReceived_27 : decode cX12_hareByReceived 27 = .ok (.ifCond .eq 89, 3) := by decide +kernel
theorem dX12_hareByReceived_30 : decode cX12_hareByReceived 30 = .ok (.iconst 0, 1) := by decide +kernel
theorem dX12_hareByReceived_31 : decode cX12_hareByReceived 31 = .ok (.istore 5, 2) := by decide +kernel
theorem dX12_hareByReceived_33 : decode cX12_hareByReceived 33 = .ok (.iconst 0, 1) := by decide +kernel
theorem dX12_hareByReceived_34 : decode cX12_hareByReceived 34 = .ok (.istore 6, 2) := by decide +kernel
theorem dX12_hareByReceived_36 : decode cX12_hareByReceived 36 = .ok (.iload 6, 2) := by decide +kernel
theorem dX12_hareByReceived_38 : decode cX12_hareByReceived 38 = .ok (.aload_n 0, 1) := by decide +kernel
theorem dX12_hareByReceived_39 : decode cX12_hareByReceived 39 = .ok (.getfield 9, 3) := by decide +kernel
theorem dX12_hareByReceived_42 : decode cX12_hareByReceived 42 = .ok (.iconst 1, 1) := by decide +kernel
theorem dX12_hareByReceived_43 : decode cX12_hareByReceived 43 = .ok (.iaload, 1) := by decide +kernel
theorem dX12_hareByReceived_44 : decode cX12_hareByReceived 44 = .ok (.if_icmp .ge 53, 3) := by decide +kernel
theorem dX12_hareByReceived_47 : decode cX12_hareByReceived 47 = .ok (.aload_n 0, 1) := by decide +kernel
theorem dX12_hareByReceived_48 : decode cX12_hareByReceived 48 = .ok (.iload 6, 2) := by decide +kernel
theorem dX12_hareByReceived_50 : decode cX12_hareByReceived 50 = .ok (.iconst 2, 1) := by decide +kernel
theorem dX12_hareByReceived_51 : decode cX12_hareByReceived 51 = .ok (.invokevirtual 65, 3) := by decide +kernel
theorem dX12_hareByReceived_54 : decode cX12_hareByReceived 54 = .ok (.aload_n 0, 1) := by decide +kernel
theorem dX12_hareByReceived_55 : decode cX12_hareByReceived 55 = .ok (.iload 4, 2) := by decide +kernel
theorem dX12_hareByReceived_57 : decode cX12_hareByReceived 57 = .ok (.iconst 2, 1) := by decide +kernel
theorem dX12_hareByReceived_58 : decode cX12_hareByReceived 58 = .ok (.invokevirtual 65, 3) := by decide +kernel
theorem dX12_hareByReceived_61 : decode cX12_hareByReceived 61 = .ok (.isub, 1) := by decide +kernel
theorem dX12_hareByReceived_62 : decode cX12_hareByReceived 62 = .ok (.istore 7, 2) := by decide +kernel
theorem dX12_hareByReceived_64 : decode cX12_hareByReceived 64 = .ok (.iload 5, 2) := by decide +kernel
theorem dX12_hareByReceived_66 : decode cX12_hareByReceived 66 = .ok (.iload 7, 2) := by decide +kernel
theorem dX12_hareByReceived_68 : decode cX12_hareByReceived 68 = .ok (.ifCond .gt 15, 3) := by decide +kernel
theorem dX12_hareByReceived_71 : decode cX12_hareByReceived 71 = .ok (.iload 7, 2) := by decide +kernel
theorem dX12_hareByReceived_73 : decode cX12_hareByReceived 73 = .ok (.ifCond .ne 14, 3) := by decide +kernel
theorem dX12_hareByReceived_76 : decode cX12_hareByReceived 76 = .ok (.iload 6, 2) := by decide +kernel
theorem dX12_hareByReceived_78 : decode cX12_hareByReceived 78 = .ok (.iload 4, 2) := by decide +kernel
theorem dX12_hareByReceived_80 : decode cX12_hareByReceived 80 = .ok (.if_icmp .ge 7, 3) := by decide +kernel
theorem dX12_hareByReceived_83 : decode cX12_hareByReceived 83 = .ok (.iconst 1, 1) := by decide +kernel
theorem dX12_hareByReceived_84 : decode cX12_hareByReceived 84 = .ok (.goto 4, 3) := by decide +kernel
theorem dX12_hareByReceived_87 : decode cX12_hareByReceived 87 = .ok (.iconst 0, 1) := by decide +kernel
theorem dX12_hareByReceived_88 : decode cX12_hareByReceived 88 = .ok (.iadd, 1) := by decide +kernel
theorem dX12_hareByReceived_89 : decode cX12_hareByReceived 89 = .ok (.istore 5, 2) := by decide +kernel
theorem dX12_hareByReceived_91 : decode cX12_hareByReceived 91 = .ok (.iinc 6 1, 3) := by decide +kernel
theorem dX12_hareByReceived_94 : decode cX12_hareByReceived 94 = .ok (.goto (-58), 3) := by decide +kernel
theorem dX12_hareByReceived_97 : decode cX12_hareByReceived 97 = .ok (.iload 5, 2) := by decide +kernel
theorem dX12_hareByReceived_99 : decode cX12_hareByReceived 99 = .ok (.iload_n 1, 1) := by decide +kernel
theorem dX12_hareByReceived_100 : decode cX12_hareByReceived 100 = .ok (.if_icmp .ne 8, 3) := by decide +kernel
theorem dX12_hareByReceived_103 : decode cX12_hareByReceived 103 = .ok (.iload 4, 2) := by decide +kernel
theorem dX12_hareByReceived_105 : decode cX12_hareByReceived 105 = .ok (.goto 4, 3) := by decide +kernel
theorem dX12_hareByReceived_108 : decode cX12_hareByReceived 108 = .ok (.iload_n 2, 1) := by decide +kernel
theorem dX12_hareByReceived_109 : decode cX12_hareByReceived 109 = .ok (.istore_n 2, 1) := by decide +kernel
theorem dX12_hareByReceived_110 : decode cX12_hareByReceived 110 = .ok (.iinc 4 1, 3) := by decide +kernel
theorem dX12_hareByReceived_113 : decode cX12_hareByReceived 113 = .ok (.goto (-98), 3) := by decide +kernel
theorem dX12_hareByReceived_116 : decode cX12_hareByReceived 116 = .ok (.iload_n 2, 1) := by decide +kernel
theorem dX12_hareByReceived_117 : decode cX12_hareByReceived 117 = .ok (.ireturn, 1) := by decide +kernel
theorem dX12_doSay_0 : decode cX12_doSay 0 = .ok (.aload_n 0, 1) := by decide +kernel
theorem dX12_doSay_1 : decode cX12_doSay 1 = .ok (.getfield 9, 3) := by decide +kernel
theorem dX12_doSay_4 : decode cX12_doSay 4 = .ok (.iconst 2, 1) := by decide +kernel
theorem dX12_doSay_5 : decode cX12_doSay 5 = .ok (.iaload, 1) := by decide +kernel
theorem dX12_doSay_6 : decode cX12_doSay 6 = .ok (.istore 4, 2) := by decide +kernel
theorem dX12_doSay_8 : decode cX12_doSay 8 = .ok (.aload_n 0, 1) := by decide +kernel
theorem dX12_doSay_9 : decode cX12_doSay 9 = .ok (.iload_n 1, 1) := by decide +kernel
theorem dX12_doSay_10 : decode cX12_doSay 10 = .ok (.invokevirtual 126, 3) := by decide +kernel
theorem dX12_doSay_13 : decode cX12_doSay 13 = .ok (.ifCond .eq 11, 3) := by decide +kernel
theorem dX12_doSay_16 : decode cX12_doSay 16 = .ok (.aload_n 0, 1) := by decide +kernel
theorem dX12_doSay_17 : decode cX12_doSay 17 = .ok (.iload_n 2, 1) := by decide +kernel
theorem dX12_doSay_18 : decode cX12_doSay 18 = .ok (.invokevirtual 126, 3) := by decide +kernel
theorem dX12_doSay_21 : decode cX12_doSay 21 = .ok (.ifCond .ne 9, 3) := by decide +kernel
theorem dX12_doSay_24 : decode cX12_doSay 24 = .ok (.aload_n 0, 1) := by decide +kernel
theorem dX12_doSay_25 : decode cX12_doSay 25 = .ok (.iconst 1, 1) := by decide +kernel
theorem dX12_doSay_26 : decode cX12_doSay 26 = .ok (.invokevirtual 71, 3) := by decide +kernel
theorem dX12_doSay_29 : decode cX12_doSay 29 = .ok (.ireturn, 1) := by decide +kernel
theorem dX12_doSay_30 : decode cX12_doSay 30 = .ok (.iload_n 1, 1) := by decide +kernel
theorem dX12_doSay_31 : decode cX12_doSay 31 = .ok (.iload_n 2, 1) := by decide +kernel
theorem dX12_doSay_32 : decode cX12_doSay 32 = .ok (.if_icmp .eq 13, 3) := by decide +kernel
theorem dX12_doSay_35 : decode cX12_doSay 35 = .ok (.iload_n 3, 1) := by decide +kernel
theorem dX12_doSay_36 : decode cX12_doSay 36 = .ok (.iconst 0, 1) := by decide +kernel
theorem dX12_doSay_37 : decode cX12_doSay 37 = .ok (.bipush 15, 2) := by decide +kernel
theorem dX12_doSay_39 : decode cX12_doSay 39 = .ok (.invokestatic 57, 3) := by decide +kernel
theorem dX12_doSay_42 : decode cX12_doSay 42 = .ok (.ifCond .ne 9, 3) := by decide +kernel
theorem dX12_doSay_45 : decode cX12_doSay 45 = .ok (.aload_n 0, 1) := by decide +kernel
theorem dX12_doSay_46 : decode cX12_doSay 46 = .ok (.iconst 2, 1) := by decide +kernel
theorem dX12_doSay_47 : decode cX12_doSay 47 = .ok (.invokevirtual 71, 3) := by decide +kernel
theorem dX12_doSay_50 : decode cX12_doSay 50 = .ok (.ireturn, 1) := by decide +kernel
theorem dX12_doSay_51 : decode cX12_doSay 51 = .ok (.iload 4, 2) := by decide +kernel
theorem dX12_doSay_53 : decode cX12_doSay 53 = .ok (.bipush 8, 2) := by decide +kernel
theorem dX12_doSay_55 : decode cX12_doSay 55 = .ok (.if_icmp .ne 9, 3) := by decide +kernel
theorem dX12_doSay_58 : decode cX12_doSay 58 = .ok (.aload_n 0, 1) := by decide +kernel
theorem dX12_doSay_59 : decode cX12_doSay 59 = .ok (.iconst 3, 1) := by decide +kernel
theorem dX12_doSay_60 : decode cX12_doSay 60 = .ok (.invokevirtual 71, 3) := by decide +kernel
theorem dX12_doSay_63 : decode cX12_doSay 63 = .ok (.ireturn, 1) := by decide +kernel
theorem dX12_doSay_64 : decode cX12_doSay 64 = .ok (.iconst 0, 1) := by decide +kernel
theorem dX12_doSay_65 : decode cX12_doSay 65 = .ok (.istore 5, 2) := by decide +kernel
theorem dX12_doSay_67 : decode cX12_doSay 67 = .ok (.iload 5, 2) := by decide +kernel
theorem dX12_doSay_69 : decode cX12_doSay 69 = .ok (.bipush 47, 2) := by decide +kernel
theorem dX12_doSay_71 : decode cX12_doSay 71 = .ok (.if_icmp .ge 18, 3) := by decide +kernel
theorem dX12_doSay_74 : decode cX12_doSay 74 = .ok (.aload_n 0, 1) := by decide +kernel
theorem dX12_doSay_75 : decode cX12_doSay 75 = .ok (.iload 4, 2) := by decide +kernel
theorem dX12_doSay_77 : decode cX12_doSay 77 = .ok (.iload 5, 2) := by decide +kernel
theorem dX12_doSay_79 : decode cX12_doSay 79 = .ok (.iconst 0, 1) := by decide +kernel
theorem dX12_doSay_80 : decode cX12_doSay 80 = .ok (.invokevirtual 139, 3) := by decide +kernel
theorem dX12_doSay_83 : decode cX12_doSay 83 = .ok (.iinc 5 1, 3) := by decide +kernel
theorem dX12_doSay_86 : decode cX12_doSay 86 = .ok (.goto (-19), 3) := by decide +kernel
theorem dX12_doSay_89 : decode cX12_doSay 89 = .ok (.aload_n 0, 1) := by decide +kernel
theorem dX12_doSay_90 : decode cX12_doSay 90 = .ok (.iload 4, 2) := by decide +kernel
theorem dX12_doSay_92 : decode cX12_doSay 92 = .ok (.iconst 0, 1) := by decide +kernel
theorem dX12_doSay_93 : decode cX12_doSay 93 = .ok (.aload_n 0, 1) := by decide +kernel
theorem dX12_doSay_94 : decode cX12_doSay 94 = .ok (.getfield 9, 3) := by decide +kernel
theorem dX12_doSay_97 : decode cX12_doSay 97 = .ok (.iconst 3, 1) := by decide +kernel
theorem dX12_doSay_98 : decode cX12_doSay 98 = .ok (.iaload, 1) := by decide +kernel
theorem dX12_doSay_99 : decode cX12_doSay 99 = .ok (.invokevirtual 139, 3) := by decide +kernel
theorem dX12_doSay_102 : decode cX12_doSay 102 = .ok (.aload_n 0, 1) := by decide +kernel
theorem dX12_doSay_103 : decode cX12_doSay 103 = .ok (.iload 4, 2) := by decide +kernel
theorem dX12_doSay_105 : decode cX12_doSay 105 = .ok (.iconst 1, 1) := by decide +kernel
theorem dX12_doSay_106 : decode cX12_doSay 106 = .ok (.iload_n 1, 1) := by decide +kernel
theorem dX12_doSay_107 : decode cX12_doSay 107 = .ok (.invokevirtual 139, 3) := by decide +kernel
theorem dX12_doSay_110 : decode cX12_doSay 110 = .ok (.aload_n 0, 1) := by decide +kernel
theorem dX12_doSay_111 : decode cX12_doSay 111 = .ok (.iload 4, 2) := by decide +kernel
theorem dX12_doSay_113 : decode cX12_doSay 113 = .ok (.iconst 2, 1) := by decide +kernel
theorem dX12_doSay_114 : decode cX12_doSay 114 = .ok (.iload_n 2, 1) := by decide +kernel
theorem dX12_doSay_115 : decode cX12_doSay 115 = .ok (.invokevirtual 139, 3) := by decide +kernel
theorem dX12_doSay_118 : decode cX12_doSay 118 = .ok (.aload_n 0, 1) := by decide +kernel
theorem dX12_doSay_119 : decode cX12_doSay 119 = .ok (.iload 4, 2) := by decide +kernel
theorem dX12_doSay_121 : decode cX12_doSay 121 = .ok (.iconst 3, 1) := by decide +kernel
theorem dX12_doSay_122 : decode cX12_doSay 122 = .ok (.iload_n 3, 1) := by decide +kernel
theorem dX12_doSay_123 : decode cX12_doSay 123 = .ok (.invokevirtual 139, 3) := by decide +kernel
theorem dX12_doSay_126 : decode cX12_doSay 126 = .ok (.aload_n 0, 1) := by decide +kernel
theorem dX12_doSay_127 : decode cX12_doSay 127 = .ok (.iload 4, 2) := by decide +kernel
theorem dX12_doSay_129 : decode cX12_doSay 129 = .ok (.iconst 4, 1) := by decide +kernel
theorem dX12_doSay_130 : decode cX12_doSay 130 = .ok (.bipush 119, 2) := by decide +kernel
theorem dX12_doSay_132 : decode cX12_doSay 132 = .ok (.invokevirtual 139, 3) := by decide +kernel
theorem dX12_doSay_135 : decode cX12_doSay 135 = .ok (.aload_n 0, 1) := by decide +kernel
theorem dX12_doSay_136 : decode cX12_doSay 136 = .ok (.getfield 9, 3) := by decide +kernel
theorem dX12_doSay_139 : decode cX12_doSay 139 = .ok (.iconst 2, 1) := by decide +kernel
theorem dX12_doSay_140 : decode cX12_doSay 140 = .ok (.dup2, 1) := by decide +kernel
theorem dX12_doSay_141 : decode cX12_doSay 141 = .ok (.iaload, 1) := by decide +kernel
theorem dX12_doSay_142 : decode cX12_doSay 142 = .ok (.iconst 1, 1) := by decide +kernel
theorem dX12_doSay_143 : decode cX12_doSay 143 = .ok (.iadd, 1) := by decide +kernel
theorem dX12_doSay_144 : decode cX12_doSay 144 = .ok (.iastore, 1) := by decide +kernel
theorem dX12_doSay_145 : decode cX12_doSay 145 = .ok (.aload_n 0, 1) := by decide +kernel
theorem dX12_doSay_146 : decode cX12_doSay 146 = .ok (.getfield 9, 3) := by decide +kernel
theorem dX12_doSay_149 : decode cX12_doSay 149 = .ok (.iconst 3, 1) := by decide +kernel
theorem dX12_doSay_150 : decode cX12_doSay 150 = .ok (.dup2, 1) := by decide +kernel
theorem dX12_doSay_151 : decode cX12_doSay 151 = .ok (.iaload, 1) := by decide +kernel
theorem dX12_doSay_152 : decode cX12_doSay 152 = .ok (.iconst 1, 1) := by decide +kernel
theorem dX12_doSay_153 : decode cX12_doSay 153 = .ok (.iadd, 1) := by decide +kernel
theorem dX12_doSay_154 : decode cX12_doSay 154 = .ok (.iastore, 1) := by decide +kernel
theorem dX12_doSay_155 : decode cX12_doSay 155 = .ok (.aload_n 0, 1) := by decide +kernel
theorem dX12_doSay_156 : decode cX12_doSay 156 = .ok (.getfield 9, 3) := by decide +kernel
theorem dX12_doSay_159 : decode cX12_doSay 159 = .ok (.iconst 3, 1) := by decide +kernel
theorem dX12_doSay_160 : decode cX12_doSay 160 = .ok (.iaload, 1) := by decide +kernel
theorem dX12_doSay_161 : decode cX12_doSay 161 = .ok (.iconst 1, 1) := by decide +kernel
theorem dX12_doSay_162 : decode cX12_doSay 162 = .ok (.isub, 1) := by decide +kernel
theorem dX12_doSay_163 : decode cX12_doSay 163 = .ok (.ireturn, 1) := by decide +kernel
theorem dX12_say_0 : decode cX12_say 0 = .ok (.aload_n 0, 1) := by decide +kernel
theorem dX12_say_1 : decode cX12_say 1 = .ok (.invokevirtual 75, 3) := by decide +kernel
theorem dX12_say_4 : decode cX12_say 4 = .ok (.aload_n 0, 1) := by decide +kernel
theorem dX12_say_5 : decode cX12_say 5 = .ok (.aload_n 0, 1) := by decide +kernel
theorem dX12_say_6 : decode cX12_say 6 = .ok (.iload_n 1, 1) := by decide +kernel
theorem dX12_say_7 : decode cX12_say 7 = .ok (.iload_n 2, 1) := by decide +kernel
theorem dX12_say_8 : decode cX12_say 8 = .ok (.iload_n 3, 1) := by decide +kernel
theorem dX12_say_9 : decode cX12_say 9 = .ok (.invokevirtual 143, 3) := by decide +kernel
theorem dX12_say_12 : decode cX12_say 12 = .ok (.invokevirtual 82, 3) := by decide +kernel
theorem dX12_say_15 : decode cX12_say 15 = .ok (.ireturn, 1) := by decide +kernel
theorem dX12_doForget_0 : decode cX12_doForget 0 = .ok (.aload_n 0, 1) := by decide +kernel
theorem dX12_doForget_1 : decode cX12_doForget 1 = .ok (.iload_n 1, 1) := by decide +kernel
theorem dX12_doForget_2 : decode cX12_doForget 2 = .ok (.invokevirtual 146, 3) := by decide +kernel
theorem dX12_doForget_5 : decode cX12_doForget 5 = .ok (.istore_n 2, 1) := by decide +kernel
theorem dX12_doForget_6 : decode cX12_doForget 6 = .ok (.iload_n 2, 1) := by decide +kernel
theorem dX12_doForget_7 : decode cX12_doForget 7 = .ok (.ifCond .ge 9, 3) := by decide +kernel
theorem dX12_doForget_10 : decode cX12_doForget 10 = .ok (.aload_n 0, 1) := by decide +kernel
theorem dX12_doForget_11 : decode cX12_doForget 11 = .ok (.iconst 1, 1) := by decide +kernel
theorem dX12_doForget_12 : decode cX12_doForget 12 = .ok (.invokevirtual 71, 3) := by decide +kernel
theorem dX12_doForget_15 : decode cX12_doForget 15 = .ok (.ireturn, 1) := by decide +kernel
theorem dX12_doForget_16 : decode cX12_doForget 16 = .ok (.aload_n 0, 1) := by decide +kernel
theorem dX12_doForget_17 : decode cX12_doForget 17 = .ok (.iload_n 2, 1) := by decide +kernel
theorem dX12_doForget_18 : decode cX12_doForget 18 = .ok (.iconst 4, 1) := by decide +kernel
theorem dX12_doForget_19 : decode cX12_doForget 19 = .ok (.invokevirtual 61, 3) := by decide +kernel
theorem dX12_doForget_22 : decode cX12_doForget 22 = .ok (.bipush 100, 2) := by decide +kernel
theorem dX12_doForget_24 : decode cX12_doForget 24 = .ok (.if_icmp .ne 9, 3) := by decide +kernel
theorem dX12_doForget_27 : decode cX12_doForget 27 = .ok (.aload_n 0, 1) := by decide +kernel
theorem dX12_doForget_28 : decode cX12_doForget 28 = .ok (.iconst 2, 1) := by decide +kernel
theorem dX12_doForget_29 : decode cX12_doForget 29 = .ok (.invokevirtual 71, 3) := by decide +kernel
theorem dX12_doForget_32 : decode cX12_doForget 32 = .ok (.ireturn, 1) := by decide +kernel
theorem dX12_doForget_33 : decode cX12_doForget 33 = .ok (.aload_n 0, 1) := by decide +kernel
theorem dX12_doForget_34 : decode cX12_doForget 34 = .ok (.getfield 9, 3) := by decide +kernel
theorem dX12_doForget_37 : decode cX12_doForget 37 = .ok (.iconst 2, 1) := by decide +kernel
theorem dX12_doForget_38 : decode cX12_doForget 38 = .ok (.dup2, 1) := by decide +kernel
theorem dX12_doForget_39 : decode cX12_doForget 39 = .ok (.iaload, 1) := by decide +kernel
theorem dX12_doForget_40 : decode cX12_doForget 40 = .ok (.iconst 1, 1) := by decide +kernel
theorem dX12_doForget_41 : decode cX12_doForget 41 = .ok (.isub, 1) := by decide +kernel
theorem dX12_doForget_42 : decode cX12_doForget 42 = .ok (.iastore, 1) := by decide +kernel
theorem dX12_doForget_43 : decode cX12_doForget 43 = .ok (.bipush 96, 2) := by decide +kernel
theorem dX12_doForget_45 : decode cX12_doForget 45 = .ok (.bipush 47, 2) := by decide +kernel
theorem dX12_doForget_47 : decode cX12_doForget 47 = .ok (.iload_n 2, 1) := by decide +kernel
theorem dX12_doForget_48 : decode cX12_doForget 48 = .ok (.imul, 1) := by decide +kernel
theorem dX12_doForget_49 : decode cX12_doForget 49 = .ok (.iadd, 1) := by decide +kernel
theorem dX12_doForget_50 : decode cX12_doForget 50 = .ok (.istore_n 3, 1) := by decide +kernel
theorem dX12_doForget_51 : decode cX12_doForget 51 = .ok (.aload_n 0, 1) := by decide +kernel
theorem dX12_doForget_52 : decode cX12_doForget 52 = .ok (.getfield 9, 3) := by decide +kernel
theorem dX12_doForget_55 : decode cX12_doForget 55 = .ok (.iload_n 3, 1) := by decide +kernel
theorem dX12_doForget_56 : decode cX12_doForget 56 = .ok (.bipush 47, 2) := by decide +kernel
theorem dX12_doForget_58 : decode cX12_doForget 58 = .ok (.iadd, 1) := by decide +kernel
theorem dX12_doForget_59 : decode cX12_doForget 59 = .ok (.aload_n 0, 1) := by decide +kernel
theorem dX12_doForget_60 : decode cX12_doForget 60 = .ok (.getfield 9, 3) := by decide +kernel
theorem dX12_doForget_63 : decode cX12_doForget 63 = .ok (.iload_n 3, 1) := by decide +kernel
theorem dX12_doForget_64 : decode cX12_doForget 64 = .ok (.bipush 47, 2) := by decide +kernel
theorem dX12_doForget_66 : decode cX12_doForget 66 = .ok (.aload_n 0, 1) := by decide +kernel
theorem dX12_doForget_67 : decode cX12_doForget 67 = .ok (.getfield 9, 3) := by decide +kernel
theorem dX12_doForget_70 : decode cX12_doForget 70 = .ok (.iconst 2, 1) := by decide +kernel
theorem dX12_doForget_71 : decode cX12_doForget 71 = .ok (.iaload, 1) := by decide +kernel
theorem dX12_doForget_72 : decode cX12_doForget 72 = .ok (.iload_n 2, 1) := by decide +kernel
theorem dX12_doForget_73 : decode cX12_doForget 73 = .ok (.isub, 1) := by decide +kernel
theorem dX12_doForget_74 : decode cX12_doForget 74 = .ok (.imul, 1) := by decide +kernel
theorem dX12_doForget_75 : decode cX12_doForget 75 = .ok (.invokestatic 48, 3) := by decide +kernel
theorem dX12_doForget_78 : decode cX12_doForget 78 = .ok (.aload_n 0, 1) := by decide +kernel
theorem dX12_doForget_79 : decode cX12_doForget 79 = .ok (.getfield 9, 3) := by decide +kernel
theorem dX12_doForget_82 : decode cX12_doForget 82 = .ok (.iconst 2, 1) := by decide +kernel
theorem dX12_doForget_83 : decode cX12_doForget 83 = .ok (.iaload, 1) := by decide +kernel
theorem dX12_doForget_84 : decode cX12_doForget 84 = .ok (.ireturn, 1) := by decide +kernel
theorem dX12_forget_0 : decode cX12_forget 0 = .ok (.aload_n 0, 1) := by decide +kernel
theorem dX12_forget_1 : decode cX12_forget 1 = .ok (.invokevirtual 75, 3) := by decide +kernel
theorem dX12_forget_4 : decode cX12_forget 4 = .ok (.aload_n 0, 1) := by decide +kernel
theorem dX12_forget_5 : decode cX12_forget 5 = .ok (.aload_n 0, 1) := by decide +kernel
theorem dX12_forget_6 : decode cX12_forget 6 = .ok (.iload_n 1, 1) := by decide +kernel
theorem dX12_forget_7 : decode cX12_forget 7 = .ok (.invokevirtual 149, 3) := by decide +kernel
theorem dX12_forget_10 : decode cX12_forget 10 = .ok (.invokevirtual 82, 3) := by decide +kernel
theorem dX12_forget_13 : decode cX12_forget 13 = .ok (.ireturn, 1) := by decide +kernel
theorem dX12_messageCount_0 : decode cX12_messageCount 0 = .ok (.aload_n 0, 1) := by decide +kernel
theorem dX12_messageCount_1 : decode cX12_messageCount 1 = .ok (.iconst 0, 1) := by decide +kernel
theorem dX12_messageCount_2 : decode cX12_messageCount 2 = .ok (.putfield 45, 3) := by decide +kernel
theorem dX12_messageCount_5 : decode cX12_messageCount 5 = .ok (.aload_n 0, 1) := by decide +kernel
theorem dX12_messageCount_6 : decode cX12_messageCount 6 = .ok (.getfield 9, 3) := by decide +kernel
theorem dX12_messageCount_9 : decode cX12_messageCount 9 = .ok (.iconst 2, 1) := by decide +kernel
theorem dX12_messageCount_10 : decode cX12_messageCount 10 = .ok (.iaload, 1) := by decide +kernel
theorem dX12_messageCount_11 : decode cX12_messageCount 11 = .ok (.ireturn, 1) := by decide +kernel
theorem dX12_message_0 : decode cX12_message 0 = .ok (.aload_n 0, 1) := by decide +kernel
theorem dX12_message_1 : decode cX12_message 1 = .ok (.iload_n 1, 1) := by decide +kernel
theorem dX12_message_2 : decode cX12_message 2 = .ok (.iconst 0, 1) := by decide +kernel
theorem dX12_message_3 : decode cX12_message 3 = .ok (.aload_n 0, 1) := by decide +kernel
theorem dX12_message_4 : decode cX12_message 4 = .ok (.getfield 9, 3) := by decide +kernel
theorem dX12_message_7 : decode cX12_message 7 = .ok (.iconst 2, 1) := by decide +kernel
theorem dX12_message_8 : decode cX12_message 8 = .ok (.iaload, 1) := by decide +kernel
theorem dX12_message_9 : decode cX12_message 9 = .ok (.iconst 1, 1) := by decide +kernel
theorem dX12_message_10 : decode cX12_message 10 = .ok (.isub, 1) := by decide +kernel
theorem dX12_message_11 : decode cX12_message 11 = .ok (.invokestatic 57, 3) := by decide +kernel
theorem dX12_message_14 : decode cX12_message 14 = .ok (.invokevirtual 106, 3) := by decide +kernel
theorem dX12_message_17 : decode cX12_message 17 = .ok (.ifCond .eq 12, 3) := by decide +kernel
theorem dX12_message_20 : decode cX12_message 20 = .ok (.aload_n 0, 1) := by decide +kernel
theorem dX12_message_21 : decode cX12_message 21 = .ok (.iload_n 1, 1) := by decide +kernel
theorem dX12_message_22 : decode cX12_message 22 = .ok (.iconst 0, 1) := by decide +kernel
theorem dX12_message_23 : decode cX12_message 23 = .ok (.invokevirtual 61, 3) := by decide +kernel
theorem dX12_message_26 : decode cX12_message 26 = .ok (.goto 4, 3) := by decide +kernel
theorem dX12_message_29 : decode cX12_message 29 = .ok (.iconst 0, 1) := by decide +kernel
theorem dX12_message_30 : decode cX12_message 30 = .ok (.ireturn, 1) := by decide +kernel
theorem dX12_tells_0 : decode cX12_tells 0 = .ok (.aload_n 0, 1) := by decide +kernel
theorem dX12_tells_1 : decode cX12_tells 1 = .ok (.iload_n 1, 1) := by decide +kernel
theorem dX12_tells_2 : decode cX12_tells 2 = .ok (.invokevirtual 146, 3) := by decide +kernel
theorem dX12_tells_5 : decode cX12_tells 5 = .ok (.istore_n 3, 1) := by decide +kernel
theorem dX12_tells_6 : decode cX12_tells 6 = .ok (.aload_n 0, 1) := by decide +kernel
theorem dX12_tells_7 : decode cX12_tells 7 = .ok (.iload_n 3, 1) := by decide +kernel
theorem dX12_tells_8 : decode cX12_tells 8 = .ok (.ifCond .lt 7, 3) := by decide +kernel
theorem dX12_tells_11 : decode cX12_tells 11 = .ok (.iconst 1, 1) := by decide +kernel
theorem dX12_tells_12 : decode cX12_tells 12 = .ok (.goto 4, 3) := by decide +kernel
theorem dX12_tells_15 : decode cX12_tells 15 = .ok (.iconst 0, 1) := by decide +kernel
theorem dX12_tells_16 : decode cX12_tells 16 = .ok (.invokevirtual 106, 3) := by decide +kernel
theorem dX12_tells_19 : decode cX12_tells 19 = .ok (.ifCond .eq 12, 3) := by decide +kernel
theorem dX12_tells_22 : decode cX12_tells 22 = .ok (.aload_n 0, 1) := by decide +kernel
theorem dX12_tells_23 : decode cX12_tells 23 = .ok (.iload_n 3, 1) := by decide +kernel
theorem dX12_tells_24 : decode cX12_tells 24 = .ok (.iload_n 2, 1) := by decide +kernel
theorem dX12_tells_25 : decode cX12_tells 25 = .ok (.invokevirtual 61, 3) := by decide +kernel
theorem dX12_tells_28 : decode cX12_tells 28 = .ok (.goto 4, 3) := by decide +kernel
theorem dX12_tells_31 : decode cX12_tells 31 = .ok (.iconst 0, 1) := by decide +kernel
theorem dX12_tells_32 : decode cX12_tells 32 = .ok (.ireturn, 1) := by decide +kernel
theorem dX12_sender_0 : decode cX12_sender 0 = .ok (.aload_n 0, 1) := by decide +kernel
theorem dX12_sender_1 : decode cX12_sender 1 = .ok (.iload_n 1, 1) := by decide +kernel
theorem dX12_sender_2 : decode cX12_sender 2 = .ok (.iconst 1, 1) := by decide +kernel
theorem dX12_sender_3 : decode cX12_sender 3 = .ok (.invokevirtual 152, 3) := by decide +kernel
theorem dX12_sender_6 : decode cX12_sender 6 = .ok (.ireturn, 1) := by decide +kernel
theorem dX12_receiver_0 : decode cX12_receiver 0 = .ok (.aload_n 0, 1) := by decide +kernel
theorem dX12_receiver_1 : decode cX12_receiver 1 = .ok (.iload_n 1, 1) := by decide +kernel
theorem dX12_receiver_2 : decode cX12_receiver 2 = .ok (.iconst 2, 1) := by decide +kernel
theorem dX12_receiver_3 : decode cX12_receiver 3 = .ok (.invokevirtual 152, 3) := by decide +kernel
theorem dX12_receiver_6 : decode cX12_receiver 6 = .ok (.ireturn, 1) := by decide +kernel
theorem dX12_state_0 : decode cX12_state 0 = .ok (.aload_n 0, 1) := by decide +kernel
theorem dX12_state_1 : decode cX12_state 1 = .ok (.iload_n 1, 1) := by decide +kernel
theorem dX12_state_2 : decode cX12_state 2 = .ok (.iconst 4, 1) := by decide +kernel
theorem dX12_state_3 : decode cX12_state 3 = .ok (.invokevirtual 152, 3) := by decide +kernel
theorem dX12_state_6 : decode cX12_state 6 = .ok (.istore_n 2, 1) := by decide +kernel
theorem dX12_state_7 : decode cX12_state 7 = .ok (.aload_n 0, 1) := by decide +kernel
theorem dX12_state_8 : decode cX12_state 8 = .ok (.getfield 45, 3) := by decide +kernel
theorem dX12_state_11 : decode cX12_state 11 = .ok (.ifCond .le 8, 3) := by decide +kernel
theorem dX12_state_14 : decode cX12_state 14 = .ok (.bipush 32, 2) := by decide +kernel
theorem dX12_state_16 : decode cX12_state 16 = .ok (.goto 5, 3) := by decide +kernel
theorem dX12_state_19 : decode cX12_state 19 = .ok (.iload_n 2, 1) := by decide +kernel
theorem dX12_state_20 : decode cX12_state 20 = .ok (.i2c, 1) := by decide +kernel
theorem dX12_state_21 : decode cX12_state 21 = .ok (.ireturn, 1) := by decide +kernel
theorem dX12_timesLost_0 : decode cX12_timesLost 0 = .ok (.aload_n 0, 1) := by decide +kernel
theorem dX12_timesLost_1 : decode cX12_timesLost 1 = .ok (.iload_n 1, 1) := by decide +kernel
theorem dX12_timesLost_2 : decode cX12_timesLost 2 = .ok (.iconst 5, 1) := by decide +kernel
theorem dX12_timesLost_3 : decode cX12_timesLost 3 = .ok (.invokevirtual 152, 3) := by decide +kernel
theorem dX12_timesLost_6 : decode cX12_timesLost 6 = .ok (.ireturn, 1) := by decide +kernel
theorem dX12_beatsDrummed_0 : decode cX12_beatsDrummed 0 = .ok (.aload_n 0, 1) := by decide +kernel
theorem dX12_beatsDrummed_1 : decode cX12_beatsDrummed 1 = .ok (.iload_n 1, 1) := by decide +kernel
theorem dX12_beatsDrummed_2 : decode cX12_beatsDrummed 2 = .ok (.bipush 6, 2) := by decide +kernel
theorem dX12_beatsDrummed_4 : decode cX12_beatsDrummed 4 = .ok (.invokevirtual 152, 3) := by decide +kernel
theorem dX12_beatsDrummed_7 : decode cX12_beatsDrummed 7 = .ok (.ireturn, 1) := by decide +kernel
theorem dX12_beat_0 : decode cX12_beat 0 = .ok (.iload_n 0, 1) := by decide +kernel
theorem dX12_beat_1 : decode cX12_beat 1 = .ok (.iconst 1, 1) := by decide +kernel
theorem dX12_beat_2 : decode cX12_beat 2 = .ok (.iand, 1) := by decide +kernel
theorem dX12_beat_3 : decode cX12_beat 3 = .ok (.iload_n 0, 1) := by decide +kernel
theorem dX12_beat_4 : decode cX12_beat 4 = .ok (.iconst 1, 1) := by decide +kernel
theorem dX12_beat_5 : decode cX12_beat 5 = .ok (.ishr, 1) := by decide +kernel
theorem dX12_beat_6 : decode cX12_beat 6 = .ok (.iconst 1, 1) := by decide +kernel
theorem dX12_beat_7 : decode cX12_beat 7 = .ok (.iand, 1) := by decide +kernel
theorem dX12_beat_8 : decode cX12_beat 8 = .ok (.iadd, 1) := by decide +kernel
theorem dX12_beat_9 : decode cX12_beat 9 = .ok (.iload_n 0, 1) := by decide +kernel
theorem dX12_beat_10 : decode cX12_beat 10 = .ok (.iconst 2, 1) := by decide +kernel
theorem dX12_beat_11 : decode cX12_beat 11 = .ok (.ishr, 1) := by decide +kernel
theorem dX12_beat_12 : decode cX12_beat 12 = .ok (.iconst 1, 1) := by decide +kernel
theorem dX12_beat_13 : decode cX12_beat 13 = .ok (.iand, 1) := by decide +kernel
theorem dX12_beat_14 : decode cX12_beat 14 = .ok (.iadd, 1) := by decide +kernel
theorem dX12_beat_15 : decode cX12_beat 15 = .ok (.iload_n 0, 1) := by decide +kernel
theorem dX12_beat_16 : decode cX12_beat 16 = .ok (.iconst 3, 1) := by decide +kernel
theorem dX12_beat_17 : decode cX12_beat 17 = .ok (.ishr, 1) := by decide +kernel
theorem dX12_beat_18 : decode cX12_beat 18 = .ok (.iadd, 1) := by decide +kernel
theorem dX12_beat_19 : decode cX12_beat 19 = .ok (.istore_n 2, 1) := by decide +kernel
theorem dX12_beat_20 : decode cX12_beat 20 = .ok (.iload_n 1, 1) := by decide +kernel
theorem dX12_beat_21 : decode cX12_beat 21 = .ok (.iconst 4, 1) := by decide +kernel
theorem dX12_beat_22 : decode cX12_beat 22 = .ok (.if_icmp .ge 13, 3) := by decide +kernel
theorem dX12_beat_25 : decode cX12_beat 25 = .ok (.iload_n 0, 1) := by decide +kernel
theorem dX12_beat_26 : decode cX12_beat 26 = .ok (.iconst 3, 1) := by decide +kernel
theorem dX12_beat_27 : decode cX12_beat 27 = .ok (.iload_n 1, 1) := by decide +kernel
theorem dX12_beat_28 : decode cX12_beat 28 = .ok (.isub, 1) := by decide +kernel
theorem dX12_beat_29 : decode cX12_beat 29 = .ok (.ishr, 1) := by decide +kernel
theorem dX12_beat_30 : decode cX12_beat 30 = .ok (.iconst 1, 1) := by decide +kernel
theorem dX12_beat_31 : decode cX12_beat 31 = .ok (.iand, 1) := by decide +kernel
theorem dX12_beat_32 : decode cX12_beat 32 = .ok (.goto 6, 3) := by decide +kernel
theorem dX12_beat_35 : decode cX12_beat 35 = .ok (.iload_n 2, 1) := by decide +kernel
theorem dX12_beat_36 : decode cX12_beat 36 = .ok (.iconst 1, 1) := by decide +kernel
theorem dX12_beat_37 : decode cX12_beat 37 = .ok (.iand, 1) := by decide +kernel
theorem dX12_beat_38 : decode cX12_beat 38 = .ok (.ireturn, 1) := by decide +kernel
theorem dX12_isThump_0 : decode cX12_isThump 0 = .ok (.aload_n 0, 1) := by decide +kernel
theorem dX12_isThump_1 : decode cX12_isThump 1 = .ok (.iload_n 1, 1) := by decide +kernel
theorem dX12_isThump_2 : decode cX12_isThump 2 = .ok (.iconst 0, 1) := by decide +kernel
theorem dX12_isThump_3 : decode cX12_isThump 3 = .ok (.bipush 15, 2) := by decide +kernel
theorem dX12_isThump_5 : decode cX12_isThump 5 = .ok (.invokestatic 57, 3) := by decide +kernel
theorem dX12_isThump_8 : decode cX12_isThump 8 = .ok (.ifCond .ne 7, 3) := by decide +kernel
theorem dX12_isThump_11 : decode cX12_isThump 11 = .ok (.iconst 1, 1) := by decide +kernel
theorem dX12_isThump_12 : decode cX12_isThump 12 = .ok (.goto 17, 3) := by decide +kernel
theorem dX12_isThump_15 : decode cX12_isThump 15 = .ok (.iload_n 2, 1) := by decide +kernel
theorem dX12_isThump_16 : decode cX12_isThump 16 = .ok (.iconst 0, 1) := by decide +kernel
theorem dX12_isThump_17 : decode cX12_isThump 17 = .ok (.iconst 4, 1) := by decide +kernel
theorem dX12_isThump_18 : decode cX12_isThump 18 = .ok (.invokestatic 57, 3) := by decide +kernel
theorem dX12_isThump_21 : decode cX12_isThump 21 = .ok (.ifCond .ne 7, 3) := by decide +kernel
theorem dX12_isThump_24 : decode cX12_isThump 24 = .ok (.iconst 2, 1) := by decide +kernel
theorem dX12_isThump_25 : decode cX12_isThump 25 = .ok (.goto 4, 3) := by decide +kernel
theorem dX12_isThump_28 : decode cX12_isThump 28 = .ok (.iconst 0, 1) := by decide +kernel
theorem dX12_isThump_29 : decode cX12_isThump 29 = .ok (.putfield 45, 3) := by decide +kernel
theorem dX12_isThump_32 : decode cX12_isThump 32 = .ok (.aload_n 0, 1) := by decide +kernel
theorem dX12_isThump_33 : decode cX12_isThump 33 = .ok (.getfield 45, 3) := by decide +kernel
theorem dX12_isThump_36 : decode cX12_isThump 36 = .ok (.ifCond .ne 16, 3) := by decide +kernel
theorem dX12_isThump_39 : decode cX12_isThump 39 = .ok (.iload_n 1, 1) := by decide +kernel
theorem dX12_isThump_40 : decode cX12_isThump 40 = .ok (.iload_n 2, 1) := by decide +kernel
theorem dX12_isThump_41 : decode cX12_isThump 41 = .ok (.invokestatic 155, 3) := by decide +kernel
theorem dX12_isThump_44 : decode cX12_isThump 44 = .ok (.iconst 1, 1) := by decide +kernel
theorem dX12_isThump_45 : decode cX12_isThump 45 = .ok (.if_icmp .ne 7, 3) := by decide +kernel
theorem dX12_isThump_48 : decode cX12_isThump 48 = .ok (.iconst 1, 1) := by decide +kernel
theorem dX12_isThump_49 : decode cX12_isThump 49 = .ok (.goto 4, 3) := by decide +kernel
theorem dX12_isThump_52 : decode cX12_isThump 52 = .ok (.iconst 0, 1) := by decide +kernel
theorem dX12_isThump_53 : decode cX12_isThump 53 = .ok (.ireturn, 1) := by decide +kernel
theorem dX12_decode_0 : decode cX12_decode 0 = .ok (.aload_n 0, 1) := by decide +kernel
theorem dX12_decode_1 : decode cX12_decode 1 = .ok (.iload_n 1, 1) := by decide +kernel
theorem dX12_decode_2 : decode cX12_decode 2 = .ok (.iconst 0, 1) := by decide +kernel
theorem dX12_decode_3 : decode cX12_decode 3 = .ok (.bipush 31, 2) := by decide +kernel
theorem dX12_decode_5 : decode cX12_decode 5 = .ok (.invokestatic 57, 3) := by decide +kernel
theorem dX12_decode_8 : decode cX12_decode 8 = .ok (.ifCond .ne 7, 3) := by decide +kernel
theorem dX12_decode_11 : decode cX12_decode 11 = .ok (.iconst 1, 1) := by decide +kernel
theorem dX12_decode_12 : decode cX12_decode 12 = .ok (.goto 21, 3) := by decide +kernel
theorem dX12_decode_15 : decode cX12_decode 15 = .ok (.iload_n 1, 1) := by decide +kernel
theorem dX12_decode_16 : decode cX12_decode 16 = .ok (.iconst 1, 1) := by decide +kernel
theorem dX12_decode_17 : decode cX12_decode 17 = .ok (.ishr, 1) := by decide +kernel
theorem dX12_decode_18 : decode cX12_decode 18 = .ok (.iconst 4, 1) := by decide +kernel
theorem dX12_decode_19 : decode cX12_decode 19 = .ok (.invokestatic 155, 3) := by decide +kernel
theorem dX12_decode_22 : decode cX12_decode 22 = .ok (.iload_n 1, 1) := by decide +kernel
theorem dX12_decode_23 : decode cX12_decode 23 = .ok (.iconst 1, 1) := by decide +kernel
theorem dX12_decode_24 : decode cX12_decode 24 = .ok (.iand, 1) := by decide +kernel
theorem dX12_decode_25 : decode cX12_decode 25 = .ok (.if_icmp .eq 7, 3) := by decide +kernel
theorem dX12_decode_28 : decode cX12_decode 28 = .ok (.iconst 2, 1) := by decide +kernel
theorem dX12_decode_29 : decode cX12_decode 29 = .ok (.goto 4, 3) := by decide +kernel
theorem dX12_decode_32 : decode cX12_decode 32 = .ok (.iconst 0, 1) := by decide +kernel
theorem dX12_decode_33 : decode cX12_decode 33 = .ok (.putfield 45, 3) := by decide +kernel
theorem dX12_decode_36 : decode cX12_decode 36 = .ok (.aload_n 0, 1) := by decide +kernel
theorem dX12_decode_37 : decode cX12_decode 37 = .ok (.getfield 45, 3) := by decide +kernel
theorem dX12_decode_40 : decode cX12_decode 40 = .ok (.ifCond .le 7, 3) := by decide +kernel
theorem dX12_decode_43 : decode cX12_decode 43 = .ok (.iconst 0, 1) := by decide +kernel
theorem dX12_decode_44 : decode cX12_decode 44 = .ok (.goto 6, 3) := by decide +kernel
theorem dX12_decode_47 : decode cX12_decode 47 = .ok (.iload_n 1, 1) := by decide +kernel
theorem dX12_decode_48 : decode cX12_decode 48 = .ok (.iconst 1, 1) := by decide +kernel
theorem dX12_decode_49 : decode cX12_decode 49 = .ok (.ishr, 1) := by decide +kernel
theorem dX12_decode_50 : decode cX12_decode 50 = .ok (.ireturn, 1) := by decide +kernel
theorem dX12_heard_0 : decode cX12_heard 0 = .ok (.sipush 472, 3) := by decide +kernel
theorem dX12_heard_3 : decode cX12_heard 3 = .ok (.sipush 128, 3) := by decide +kernel
theorem dX12_heard_6 : decode cX12_heard 6 = .ok (.iload_n 1, 1) := by decide +kernel
theorem dX12_heard_7 : decode cX12_heard 7 = .ok (.imul, 1) := by decide +kernel
theorem dX12_heard_8 : decode cX12_heard 8 = .ok (.iadd, 1) := by decide +kernel
theorem dX12_heard_9 : decode cX12_heard 9 = .ok (.iload_n 2, 1) := by decide +kernel
theorem dX12_heard_10 : decode cX12_heard 10 = .ok (.bipush 127, 2) := by decide +kernel
theorem dX12_heard_12 : decode cX12_heard 12 = .ok (.iand, 1) := by decide +kernel
theorem dX12_heard_13 : decode cX12_heard 13 = .ok (.iadd, 1) := by decide +kernel
theorem dX12_heard_14 : decode cX12_heard 14 = .ok (.ireturn, 1) := by decide +kernel
theorem dX12_begins_0 : decode cX12_begins 0 = .ok (.iconst 0, 1) := by decide +kernel
theorem dX12_begins_1 : decode cX12_begins 1 = .ok (.istore_n 1, 1) := by decide +kernel
theorem dX12_begins_2 : decode cX12_begins 2 = .ok (.iload_n 1, 1) := by decide +kernel
theorem dX12_begins_3 : decode cX12_begins 3 = .ok (.aload_n 0, 1) := by decide +kernel
theorem dX12_begins_4 : decode cX12_begins 4 = .ok (.getfield 9, 3) := by decide +kernel
theorem dX12_begins_7 : decode cX12_begins 7 = .ok (.iconst 0, 1) := by decide +kernel
theorem dX12_begins_8 : decode cX12_begins 8 = .ok (.iaload, 1) := by decide +kernel
theorem dX12_begins_9 : decode cX12_begins 9 = .ok (.if_icmp .ge 126, 3) := by decide +kernel
theorem dX12_begins_12 : decode cX12_begins 12 = .ok (.iconst (-1), 1) := by decide +kernel
theorem dX12_begins_13 : decode cX12_begins 13 = .ok (.istore_n 2, 1) := by decide +kernel
theorem dX12_begins_14 : decode cX12_begins 14 = .ok (.iconst 1, 1) := by decide +kernel
theorem dX12_begins_15 : decode cX12_begins 15 = .ok (.istore_n 3, 1) := by decide +kernel
theorem dX12_begins_16 : decode cX12_begins 16 = .ok (.aload_n 0, 1) := by decide +kernel
theorem dX12_begins_17 : decode cX12_begins 17 = .ok (.getfield 9, 3) := by decide +kernel
theorem dX12_begins_20 : decode cX12_begins 20 = .ok (.iconst 2, 1) := by decide +kernel
theorem dX12_begins_21 : decode cX12_begins 21 = .ok (.iaload, 1) := by decide +kernel
theorem dX12_begins_22 : decode cX12_begins 22 = .ok (.iconst 1, 1) := by decide +kernel
theorem dX12_begins_23 : decode cX12_begins 23 = .ok (.isub, 1) := by decide +kernel
theorem dX12_begins_24 : decode cX12_begins 24 = .ok (.istore 4, 2) := by decide +kernel
theorem dX12_begins_26 : decode cX12_begins 26 = .ok (.iload 4, 2) := by decide +kernel
theorem dX12_begins_28 : decode cX12_begins 28 = .ok (.ifCond .lt 77, 3) := by decide +kernel
theorem dX12_begins_31 : decode cX12_begins 31 = .ok (.aload_n 0, 1) := by decide +kernel
theorem dX12_begins_32 : decode cX12_begins 32 = .ok (.iload 4, 2) := by decide +kernel
theorem dX12_begins_34 : decode cX12_begins 34 = .ok (.invokevirtual 158, 3) := by decide +kernel
theorem dX12_begins_37 : decode cX12_begins 37 = .ok (.iload_n 1, 1) := by decide +kernel
theorem dX12_begins_38 : decode cX12_begins 38 = .ok (.if_icmp .ne 7, 3) := by decide +kernel
theorem dX12_begins_41 : decode cX12_begins 41 = .ok (.iconst 1, 1) := by decide +kernel
theorem dX12_begins_42 : decode cX12_begins 42 = .ok (.goto 4, 3) := by decide +kernel
theorem dX12_begins_45 : decode cX12_begins 45 = .ok (.iconst 0, 1) := by decide +kernel
theorem dX12_begins_46 : decode cX12_begins 46 = .ok (.istore 5, 2) := by decide +kernel
theorem dX12_begins_48 : decode cX12_begins 48 = .ok (.iload_n 3, 1) := by decide +kernel
theorem dX12_begins_49 : decode cX12_begins 49 = .ok (.ifCond .eq 24, 3) := by decide +kernel
theorem dX12_begins_52 : decode cX12_begins 52 = .ok (.iload 5, 2) := by decide +kernel
theorem dX12_begins_54 : decode cX12_begins 54 = .ok (.ifCond .eq 15, 3) := by decide +kernel
theorem dX12_begins_57 : decode cX12_begins 57 = .ok (.aload_n 0, 1) := by decide +kernel
theorem dX12_begins_58 : decode cX12_begins 58 = .ok (.iload 4, 2) := by decide +kernel
theorem dX12_begins_60 : decode cX12_begins 60 = .ok (.iconst 4, 1) := by decide +kernel
theorem dX12_begins_61 : decode cX12_begins 61 = .ok (.invokevirtual 61, 3) := by decide +kernel
theorem dX12_begins_64 : decode cX12_begins 64 = .ok (.bipush 100, 2) := by decide +kernel
theorem dX12_begins_66 : decode cX12_begins 66 = .ok (.if_icmp .eq 7, 3) := by decide +kernel
theorem dX12_begins_69 : decode cX12_begins 69 = .ok (.iconst 1, 1) := by decide +kernel
theorem dX12_begins_70 : decode cX12_begins 70 = .ok (.goto 4, 3) := by decide +kernel
theorem dX12_begins_73 : decode cX12_begins 73 = .ok (.iconst 0, 1) := by decide +kernel
theorem dX12_begins_74 : decode cX12_begins 74 = .ok (.istore_n 3, 1) := by decide +kernel
theorem dX12_begins_75 : decode cX12_begins 75 = .ok (.iload 5, 2) := by decide +kernel
theorem dX12_begins_77 : decode cX12_begins 77 = .ok (.ifCond .eq 20, 3) := by decide +kernel
theorem dX12_begins_80 : decode cX12_begins 80 = .ok (.aload_n 0, 1) := by decide +kernel
theorem dX12_begins_81 : decode cX12_begins 81 = .ok (.iload 4, 2) := by decide +kernel
theorem dX12_begins_83 : decode cX12_begins 83 = .ok (.iconst 4, 1) := by decide +kernel
theorem dX12_begins_84 : decode cX12_begins 84 = .ok (.invokevirtual 61, 3) := by decide +kernel
theorem dX12_begins_87 : decode cX12_begins 87 = .ok (.bipush 119, 2) := by decide +kernel
theorem dX12_begins_89 : decode cX12_begins 89 = .ok (.if_icmp .ne 8, 3) := by decide +kernel
theorem dX12_begins_92 : decode cX12_begins 92 = .ok (.iload 4, 2) := by decide +kernel
theorem dX12_begins_94 : decode cX12_begins 94 = .ok (.goto 4, 3) := by decide +kernel
theorem dX12_begins_97 : decode cX12_begins 97 = .ok (.iload_n 2, 1) := by decide +kernel
theorem dX12_begins_98 : decode cX12_begins 98 = .ok (.istore_n 2, 1) := by decide +kernel
theorem dX12_begins_99 : decode cX12_begins 99 = .ok (.iinc 4 (-1), 3) := by decide +kernel
theorem dX12_begins_102 : decode cX12_begins 102 = .ok (.goto (-76), 3) := by decide +kernel
theorem dX12_begins_105 : decode cX12_begins 105 = .ok (.iload_n 3, 1) := by decide +kernel
theorem dX12_begins_106 : decode cX12_begins 106 = .ok (.ifCond .eq 23, 3) := by decide +kernel
theorem dX12_begins_109 : decode cX12_begins 109 = .ok (.iload_n 2, 1) := by decide +kernel
theorem dX12_begins_110 : decode cX12_begins 110 = .ok (.ifCond .lt 19, 3) := by decide +kernel
theorem dX12_begins_113 : decode cX12_begins 113 = .ok (.aload_n 0, 1) := by decide +kernel
theorem dX12_begins_114 : decode cX12_begins 114 = .ok (.iload_n 2, 1) := by decide +kernel
theorem dX12_begins_115 : decode cX12_begins 115 = .ok (.iconst 4, 1) := by decide +kernel
theorem dX12_begins_116 : decode cX12_begins 116 = .ok (.bipush 100, 2) := by decide +kernel
theorem dX12_begins_118 : decode cX12_begins 118 = .ok (.invokevirtual 139, 3) := by decide +kernel
theorem dX12_begins_121 : decode cX12_begins 121 = .ok (.aload_n 0, 1) := by decide +kernel
theorem dX12_begins_122 : decode cX12_begins 122 = .ok (.iload_n 2, 1) := by decide +kernel
theorem dX12_begins_123 : decode cX12_begins 123 = .ok (.bipush 6, 2) := by decide +kernel
theorem dX12_begins_125 : decode cX12_begins 125 = .ok (.iconst 0, 1) := by decide +kernel
theorem dX12_begins_126 : decode cX12_begins 126 = .ok (.invokevirtual 139, 3) := by decide +kernel
theorem dX12_begins_129 : decode cX12_begins 129 = .ok (.iinc 1 1, 3) := by decide +kernel
theorem dX12_begins_132 : decode cX12_begins 132 = .ok (.goto (-130), 3) := by decide +kernel
theorem dX12_begins_135 : decode cX12_begins 135 = .ok (.return_, 1) := by decide +kernel
theorem dX12_drumsBeat_0 : decode cX12_drumsBeat 0 = .ok (.aload_n 0, 1) := by decide +kernel
theorem dX12_drumsBeat_1 : decode cX12_drumsBeat 1 = .ok (.iload_n 1, 1) := by decide +kernel
theorem dX12_drumsBeat_2 : decode cX12_drumsBeat 2 = .ok (.bipush 6, 2) := by decide +kernel
theorem dX12_drumsBeat_4 : decode cX12_drumsBeat 4 = .ok (.invokevirtual 61, 3) := by decide +kernel
theorem dX12_drumsBeat_7 : decode cX12_drumsBeat 7 = .ok (.istore_n 2, 1) := by decide +kernel
theorem dX12_drumsBeat_8 : decode cX12_drumsBeat 8 = .ok (.aload_n 0, 1) := by decide +kernel
theorem dX12_drumsBeat_9 : decode cX12_drumsBeat 9 = .ok (.iload_n 1, 1) := by decide +kernel
theorem dX12_drumsBeat_10 : decode cX12_drumsBeat 10 = .ok (.bipush 6, 2) := by decide +kernel
theorem dX12_drumsBeat_12 : decode cX12_drumsBeat 12 = .ok (.iload_n 2, 1) := by decide +kernel
theorem dX12_drumsBeat_13 : decode cX12_drumsBeat 13 = .ok (.iconst 1, 1) := by decide +kernel
theorem dX12_drumsBeat_14 : decode cX12_drumsBeat 14 = .ok (.iadd, 1) := by decide +kernel
theorem dX12_drumsBeat_15 : decode cX12_drumsBeat 15 = .ok (.invokevirtual 139, 3) := by decide +kernel
theorem dX12_drumsBeat_18 : decode cX12_drumsBeat 18 = .ok (.aload_n 0, 1) := by decide +kernel
theorem dX12_drumsBeat_19 : decode cX12_drumsBeat 19 = .ok (.iload_n 1, 1) := by decide +kernel
theorem dX12_drumsBeat_20 : decode cX12_drumsBeat 20 = .ok (.iconst 3, 1) := by decide +kernel
theorem dX12_drumsBeat_21 : decode cX12_drumsBeat 21 = .ok (.invokevirtual 61, 3) := by decide +kernel
theorem dX12_drumsBeat_24 : decode cX12_drumsBeat 24 = .ok (.iload_n 2, 1) := by decide +kernel
theorem dX12_drumsBeat_25 : decode cX12_drumsBeat 25 = .ok (.invokestatic 155, 3) := by decide +kernel
theorem dX12_drumsBeat_28 : decode cX12_drumsBeat 28 = .ok (.ifCond .ne 4, 3) := by decide +kernel
theorem dX12_drumsBeat_31 : decode cX12_drumsBeat 31 = .ok (.return_, 1) := by decide +kernel
theorem dX12_drumsBeat_32 : decode cX12_drumsBeat 32 = .ok (.aload_n 0, 1) := by decide +kernel
theorem dX12_drumsBeat_33 : decode cX12_drumsBeat 33 = .ok (.getfield 9, 3) := by decide +kernel
theorem dX12_drumsBeat_36 : decode cX12_drumsBeat 36 = .ok (.iconst 5, 1) := by decide +kernel
theorem dX12_drumsBeat_37 : decode cX12_drumsBeat 37 = .ok (.dup2, 1) := by decide +kernel
theorem dX12_drumsBeat_38 : decode cX12_drumsBeat 38 = .ok (.iaload, 1) := by decide +kernel
theorem dX12_drumsBeat_39 : decode cX12_drumsBeat 39 = .ok (.iconst 1, 1) := by decide +kernel
theorem dX12_drumsBeat_40 : decode cX12_drumsBeat 40 = .ok (.iadd, 1) := by decide +kernel
theorem dX12_drumsBeat_41 : decode cX12_drumsBeat 41 = .ok (.iastore, 1) := by decide +kernel
theorem dX12_drumsBeat_42 : decode cX12_drumsBeat 42 = .ok (.aload_n 0, 1) := by decide +kernel
theorem dX12_drumsBeat_43 : decode cX12_drumsBeat 43 = .ok (.aload_n 0, 1) := by decide +kernel
theorem dX12_drumsBeat_44 : decode cX12_drumsBeat 44 = .ok (.iload_n 1, 1) := by decide +kernel
theorem dX12_drumsBeat_45 : decode cX12_drumsBeat 45 = .ok (.invokevirtual 158, 3) := by decide +kernel
theorem dX12_drumsBeat_48 : decode cX12_drumsBeat 48 = .ok (.invokevirtual 99, 3) := by decide +kernel
theorem dX12_drumsBeat_51 : decode cX12_drumsBeat 51 = .ok (.iconst 0, 1) := by decide +kernel
theorem dX12_drumsBeat_52 : decode cX12_drumsBeat 52 = .ok (.istore_n 3, 1) := by decide +kernel
theorem dX12_drumsBeat_53 : decode cX12_drumsBeat 53 = .ok (.iload_n 3, 1) := by decide +kernel
theorem dX12_drumsBeat_54 : decode cX12_drumsBeat 54 = .ok (.aload_n 0, 1) := by decide +kernel
theorem dX12_drumsBeat_55 : decode cX12_drumsBeat 55 = .ok (.getfield 9, 3) := by decide +kernel
theorem dX12_drumsBeat_58 : decode cX12_drumsBeat 58 = .ok (.iconst 0, 1) := by decide +kernel
theorem dX12_drumsBeat_59 : decode cX12_drumsBeat 59 = .ok (.iaload, 1) := by decide +kernel
theorem dX12_drumsBeat_60 : decode cX12_drumsBeat 60 = .ok (.if_icmp .ge 95, 3) := by decide +kernel
theorem dX12_drumsBeat_63 : decode cX12_drumsBeat 63 = .ok (.aload_n 0, 1) := by decide +kernel
theorem dX12_drumsBeat_64 : decode cX12_drumsBeat 64 = .ok (.getfield 25, 3) := by decide +kernel
theorem dX12_drumsBeat_67 : decode cX12_drumsBeat 67 = .ok (.iload_n 3, 1) := by decide +kernel
theorem dX12_drumsBeat_68 : decode cX12_drumsBeat 68 = .ok (.iaload, 1) := by decide +kernel
theorem dX12_drumsBeat_69 : decode cX12_drumsBeat 69 = .ok (.sipush 1000, 3) := by decide +kernel
theorem dX12_drumsBeat_72 : decode cX12_drumsBeat 72 = .ok (.if_icmp .ge 7, 3) := by decide +kernel
theorem dX12_drumsBeat_75 : decode cX12_drumsBeat 75 = .ok (.iconst 1, 1) := by decide +kernel
theorem dX12_drumsBeat_76 : decode cX12_drumsBeat 76 = .ok (.goto 4, 3) := by decide +kernel
theorem dX12_drumsBeat_79 : decode cX12_drumsBeat 79 = .ok (.iconst 0, 1) := by decide +kernel
theorem dX12_drumsBeat_80 : decode cX12_drumsBeat 80 = .ok (.istore 4, 2) := by decide +kernel
theorem dX12_drumsBeat_82 : decode cX12_drumsBeat 82 = .ok (.aload_n 0, 1) := by decide +kernel
theorem dX12_drumsBeat_83 : decode cX12_drumsBeat 83 = .ok (.getfield 9, 3) := by decide +kernel
theorem dX12_drumsBeat_86 : decode cX12_drumsBeat 86 = .ok (.iconst 4, 1) := by decide +kernel
theorem dX12_drumsBeat_87 : decode cX12_drumsBeat 87 = .ok (.iaload, 1) := by decide +kernel
theorem dX12_drumsBeat_88 : decode cX12_drumsBeat 88 = .ok (.aload_n 0, 1) := by decide +kernel
theorem dX12_drumsBeat_89 : decode cX12_drumsBeat 89 = .ok (.getfield 25, 3) := by decide +kernel
theorem dX12_drumsBeat_92 : decode cX12_drumsBeat 92 = .ok (.iload_n 3, 1) := by decide +kernel
theorem dX12_drumsBeat_93 : decode cX12_drumsBeat 93 = .ok (.iaload, 1) := by decide +kernel
theorem dX12_drumsBeat_94 : decode cX12_drumsBeat 94 = .ok (.iadd, 1) := by decide +kernel
theorem dX12_drumsBeat_95 : decode cX12_drumsBeat 95 = .ok (.istore 5, 2) := by decide +kernel
theorem dX12_drumsBeat_97 : decode cX12_drumsBeat 97 = .ok (.aload_n 0, 1) := by decide +kernel
theorem dX12_drumsBeat_98 : decode cX12_drumsBeat 98 = .ok (.iload_n 1, 1) := by decide +kernel
theorem dX12_drumsBeat_99 : decode cX12_drumsBeat 99 = .ok (.bipush 7, 2) := by decide +kernel
theorem dX12_drumsBeat_101 : decode cX12_drumsBeat 101 = .ok (.bipush 8, 2) := by decide +kernel
theorem dX12_drumsBeat_103 : decode cX12_drumsBeat 103 = .ok (.iload_n 2, 1) := by decide +kernel
theorem dX12_drumsBeat_104 : decode cX12_drumsBeat 104 = .ok (.imul, 1) := by decide +kernel
theorem dX12_drumsBeat_105 : decode cX12_drumsBeat 105 = .ok (.iadd, 1) := by decide +kernel
theorem dX12_drumsBeat_106 : decode cX12_drumsBeat 106 = .ok (.iload_n 3, 1) := by decide +kernel
theorem dX12_drumsBeat_107 : decode cX12_drumsBeat 107 = .ok (.iadd, 1) := by decide +kernel
theorem dX12_drumsBeat_108 : decode cX12_drumsBeat 108 = .ok (.iload 4, 2) := by decide +kernel
theorem dX12_drumsBeat_110 : decode cX12_drumsBeat 110 = .ok (.ifCond .eq 10, 3) := by decide +kernel
theorem dX12_drumsBeat_113 : decode cX12_drumsBeat 113 = .ok (.iload 5, 2) := by decide +kernel
theorem dX12_drumsBeat_115 : decode cX12_drumsBeat 115 = .ok (.iconst 1, 1) := by decide +kernel
theorem dX12_drumsBeat_116 : decode cX12_drumsBeat 116 = .ok (.iadd, 1) := by decide +kernel
theorem dX12_drumsBeat_117 : decode cX12_drumsBeat 117 = .ok (.goto 4, 3) := by decide +kernel
theorem dX12_drumsBeat_120 : decode cX12_drumsBeat 120 = .ok (.iconst 0, 1) := by decide +kernel
theorem dX12_drumsBeat_121 : decode cX12_drumsBeat 121 = .ok (.invokevirtual 139, 3) := by decide +kernel
theorem dX12_drumsBeat_124 : decode cX12_drumsBeat 124 = .ok (.aload_n 0, 1) := by decide +kernel
theorem dX12_drumsBeat_125 : decode cX12_drumsBeat 125 = .ok (.getfield 9, 3) := by decide +kernel
theorem dX12_drumsBeat_128 : decode cX12_drumsBeat 128 = .ok (.aload_n 0, 1) := by decide +kernel
theorem dX12_drumsBeat_129 : decode cX12_drumsBeat 129 = .ok (.iload_n 3, 1) := by decide +kernel
theorem dX12_drumsBeat_130 : decode cX12_drumsBeat 130 = .ok (.iload 5, 2) := by decide +kernel
theorem dX12_drumsBeat_132 : decode cX12_drumsBeat 132 = .ok (.invokevirtual 161, 3) := by decide +kernel
theorem dX12_drumsBeat_135 : decode cX12_drumsBeat 135 = .ok (.dup2, 1) := by decide +kernel
theorem dX12_drumsBeat_136 : decode cX12_drumsBeat 136 = .ok (.iaload, 1) := by decide +kernel
theorem dX12_drumsBeat_137 : decode cX12_drumsBeat 137 = .ok (.iload 4, 2) := by decide +kernel
theorem dX12_drumsBeat_139 : decode cX12_drumsBeat 139 = .ok (.ifCond .eq 7, 3) := by decide +kernel
theorem dX12_drumsBeat_142 : decode cX12_drumsBeat 142 = .ok (.iconst 1, 1) := by decide +kernel
theorem dX12_drumsBeat_143 : decode cX12_drumsBeat 143 = .ok (.goto 4, 3) := by decide +kernel
theorem dX12_drumsBeat_146 : decode cX12_drumsBeat 146 = .ok (.iconst 0, 1) := by decide +kernel
theorem dX12_drumsBeat_147 : decode cX12_drumsBeat 147 = .ok (.iadd, 1) := by decide +kernel
theorem dX12_drumsBeat_148 : decode cX12_drumsBeat 148 = .ok (.iastore, 1) := by decide +kernel
theorem dX12_drumsBeat_149 : decode cX12_drumsBeat 149 = .ok (.iinc 3 1, 3) := by decide +kernel
theorem dX12_drumsBeat_152 : decode cX12_drumsBeat 152 = .ok (.goto (-99), 3) := by decide +kernel
theorem dX12_drumsBeat_155 : decode cX12_drumsBeat 155 = .ok (.return_, 1) := by decide +kernel
theorem dX12_arrives_0 : decode cX12_arrives 0 = .ok (.aload_n 0, 1) := by decide +kernel
theorem dX12_arrives_1 : decode cX12_arrives 1 = .ok (.iload_n 1, 1) := by decide +kernel
theorem dX12_arrives_2 : decode cX12_arrives 2 = .ok (.iconst 2, 1) := by decide +kernel
theorem dX12_arrives_3 : decode cX12_arrives 3 = .ok (.invokevirtual 61, 3) := by decide +kernel
theorem dX12_arrives_6 : decode cX12_arrives 6 = .ok (.istore_n 2, 1) := by decide +kernel
theorem dX12_arrives_7 : decode cX12_arrives 7 = .ok (.aload_n 0, 1) := by decide +kernel
theorem dX12_arrives_8 : decode cX12_arrives 8 = .ok (.iload_n 2, 1) := by decide +kernel
theorem dX12_arrives_9 : decode cX12_arrives 9 = .ok (.iconst 0, 1) := by decide +kernel
theorem dX12_arrives_10 : decode cX12_arrives 10 = .ok (.invokevirtual 65, 3) := by decide +kernel
theorem dX12_arrives_13 : decode cX12_arrives 13 = .ok (.istore_n 3, 1) := by decide +kernel
theorem dX12_arrives_14 : decode cX12_arrives 14 = .ok (.aload_n 0, 1) := by decide +kernel
theorem dX12_arrives_15 : decode cX12_arrives 15 = .ok (.aload_n 0, 1) := by decide +kernel
theorem dX12_arrives_16 : decode cX12_arrives 16 = .ok (.iload_n 1, 1) := by decide +kernel
theorem dX12_arrives_17 : decode cX12_arrives 17 = .ok (.invokevirtual 158, 3) := by decide +kernel
theorem dX12_arrives_20 : decode cX12_arrives 20 = .ok (.invokevirtual 99, 3) := by decide +kernel
theorem dX12_arrives_23 : decode cX12_arrives 23 = .ok (.aload_n 0, 1) := by decide +kernel
theorem dX12_arrives_24 : decode cX12_arrives 24 = .ok (.iload_n 2, 1) := by decide +kernel
theorem dX12_arrives_25 : decode cX12_arrives 25 = .ok (.iconst 1, 1) := by decide +kernel
theorem dX12_arrives_26 : decode cX12_arrives 26 = .ok (.invokevirtual 65, 3) := by decide +kernel
theorem dX12_arrives_29 : decode cX12_arrives 29 = .ok (.iconst 1, 1) := by decide +kernel
theorem dX12_arrives_30 : decode cX12_arrives 30 = .ok (.if_icmp .ne 19, 3) := by decide +kernel
theorem dX12_arrives_33 : decode cX12_arrives 33 = .ok (.aload_n 0, 1) := by decide +kernel
theorem dX12_arrives_34 : decode cX12_arrives 34 = .ok (.getfield 25, 3) := by decide +kernel
theorem dX12_arrives_37 : decode cX12_arrives 37 = .ok (.iload_n 3, 1) := by decide +kernel
theorem dX12_arrives_38 : decode cX12_arrives 38 = .ok (.iaload, 1) := by decide +kernel
theorem dX12_arrives_39 : decode cX12_arrives 39 = .ok (.sipush 1000, 3) := by decide +kernel
theorem dX12_arrives_42 : decode cX12_arrives 42 = .ok (.if_icmp .ge 7, 3) := by decide +kernel
theorem dX12_arrives_45 : decode cX12_arrives 45 = .ok (.iconst 1, 1) := by decide +kernel
theorem dX12_arrives_46 : decode cX12_arrives 46 = .ok (.goto 4, 3) := by decide +kernel
theorem dX12_arrives_49 : decode cX12_arrives 49 = .ok (.iconst 0, 1) := by decide +kernel
theorem dX12_arrives_50 : decode cX12_arrives 50 = .ok (.istore 4, 2) := by decide +kernel
theorem dX12_arrives_52 : decode cX12_arrives 52 = .ok (.iconst 0, 1) := by decide +kernel
theorem dX12_arrives_53 : decode cX12_arrives 53 = .ok (.istore 5, 2) := by decide +kernel
theorem dX12_arrives_55 : decode cX12_arrives 55 = .ok (.iload 5, 2) := by decide +kernel
theorem dX12_arrives_57 : decode cX12_arrives 57 = .ok (.iconst 5, 1) := by decide +kernel
theorem dX12_arrives_58 : decode cX12_arrives 58 = .ok (.if_icmp .ge 76, 3) := by decide +kernel
theorem dX12_arrives_61 : decode cX12_arrives 61 = .ok (.iload 4, 2) := by decide +kernel
theorem dX12_arrives_63 : decode cX12_arrives 63 = .ok (.ifCond .eq 71, 3) := by decide +kernel
theorem dX12_arrives_66 : decode cX12_arrives 66 = .ok (.aload_n 0, 1) := by decide +kernel
theorem dX12_arrives_67 : decode cX12_arrives 67 = .ok (.iload_n 1, 1) := by decide +kernel
theorem dX12_arrives_68 : decode cX12_arrives 68 = .ok (.iconst 3, 1) := by decide +kernel
theorem dX12_arrives_69 : decode cX12_arrives 69 = .ok (.invokevirtual 61, 3) := by decide +kernel
theorem dX12_arrives_72 : decode cX12_arrives 72 = .ok (.iload 5, 2) := by decide +kernel
theorem dX12_arrives_74 : decode cX12_arrives 74 = .ok (.invokestatic 155, 3) := by decide +kernel
theorem dX12_arrives_77 : decode cX12_arrives 77 = .ok (.iconst 1, 1) := by decide +kernel
theorem dX12_arrives_78 : decode cX12_arrives 78 = .ok (.if_icmp .ne 50, 3) := by decide +kernel
theorem dX12_arrives_81 : decode cX12_arrives 81 = .ok (.aload_n 0, 1) := by decide +kernel
theorem dX12_arrives_82 : decode cX12_arrives 82 = .ok (.iload_n 1, 1) := by decide +kernel
theorem dX12_arrives_83 : decode cX12_arrives 83 = .ok (.bipush 7, 2) := by decide +kernel
theorem dX12_arrives_85 : decode cX12_arrives 85 = .ok (.bipush 8, 2) := by decide +kernel
theorem dX12_arrives_87 : decode cX12_arrives 87 = .ok (.iload 5, 2) := by decide +kernel
theorem dX12_arrives_89 : decode cX12_arrives 89 = .ok (.imul, 1) := by decide +kernel
theorem dX12_arrives_90 : decode cX12_arrives 90 = .ok (.iadd, 1) := by decide +kernel
theorem dX12_arrives_91 : decode cX12_arrives 91 = .ok (.iload_n 3, 1) := by decide +kernel
theorem dX12_arrives_92 : decode cX12_arrives 92 = .ok (.iadd, 1) := by decide +kernel
theorem dX12_arrives_93 : decode cX12_arrives 93 = .ok (.invokevirtual 61, 3) := by decide +kernel
theorem dX12_arrives_96 : decode cX12_arrives 96 = .ok (.iconst 1, 1) := by decide +kernel
theorem dX12_arrives_97 : decode cX12_arrives 97 = .ok (.isub, 1) := by decide +kernel
theorem dX12_arrives_98 : decode cX12_arrives 98 = .ok (.istore 6, 2) := by decide +kernel
theorem dX12_arrives_100 : decode cX12_arrives 100 = .ok (.iload 6, 2) := by decide +kernel
theorem dX12_arrives_102 : decode cX12_arrives 102 = .ok (.ifCond .lt 23, 3) := by decide +kernel
theorem dX12_arrives_105 : decode cX12_arrives 105 = .ok (.aload_n 0, 1) := by decide +kernel
theorem dX12_arrives_106 : decode cX12_arrives 106 = .ok (.getfield 9, 3) := by decide +kernel
theorem dX12_arrives_109 : decode cX12_arrives 109 = .ok (.aload_n 0, 1) := by decide +kernel
theorem dX12_arrives_110 : decode cX12_arrives 110 = .ok (.iload_n 3, 1) := by decide +kernel
theorem dX12_arrives_111 : decode cX12_arrives 111 = .ok (.iload 6, 2) := by decide +kernel
theorem dX12_arrives_113 : decode cX12_arrives 113 = .ok (.invokevirtual 161, 3) := by decide +kernel
theorem dX12_arrives_116 : decode cX12_arrives 116 = .ok (.iaload, 1) := by decide +kernel
theorem dX12_arrives_117 : decode cX12_arrives 117 = .ok (.iconst 1, 1) := by decide +kernel
theorem dX12_arrives_118 : decode cX12_arrives 118 = .ok (.if_icmp .ne 7, 3) := by decide +kernel
theorem dX12_arrives_121 : decode cX12_arrives 121 = .ok (.iconst 1, 1) := by decide +kernel
theorem dX12_arrives_122 : decode cX12_arrives 122 = .ok (.goto 4, 3) := by decide +kernel
theorem dX12_arrives_125 : decode cX12_arrives 125 = .ok (.iconst 0, 1) := by decide +kernel
theorem dX12_arrives_126 : decode cX12_arrives 126 = .ok (.istore 4, 2) := by decide +kernel
theorem dX12_arrives_128 : decode cX12_arrives 128 = .ok (.iinc 5 1, 3) := by decide +kernel
theorem dX12_arrives_131 : decode cX12_arrives 131 = .ok (.goto (-76), 3) := by decide +kernel
theorem dX12_arrives_134 : decode cX12_arrives 134 = .ok (.iload 4, 2) := by decide +kernel
theorem dX12_arrives_136 : decode cX12_arrives 136 = .ok (.ireturn, 1) := by decide +kernel
theorem dX12_decides_0 : decode cX12_decides 0 = .ok (.bipush 72, 2) := by decide +kernel
theorem dX12_decides_2 : decode cX12_decides 2 = .ok (.iconst 4, 1) := by decide +kernel
theorem dX12_decides_3 : decode cX12_decides 3 = .ok (.aload_n 0, 1) := by decide +kernel
theorem dX12_decides_4 : decode cX12_decides 4 = .ok (.iload_n 1, 1) := by decide +kernel
theorem dX12_decides_5 : decode cX12_decides 5 = .ok (.iconst 2, 1) := by decide +kernel
theorem dX12_decides_6 : decode cX12_decides 6 = .ok (.invokevirtual 61, 3) := by decide +kernel
theorem dX12_decides_9 : decode cX12_decides 9 = .ok (.imul, 1) := by decide +kernel
theorem dX12_decides_10 : decode cX12_decides 10 = .ok (.iadd, 1) := by decide +kernel
theorem dX12_decides_11 : decode cX12_decides 11 = .ok (.istore_n 2, 1) := by decide +kernel
theorem dX12_decides_12 : decode cX12_decides 12 = .ok (.aload_n 0, 1) := by decide +kernel
theorem dX12_decides_13 : decode cX12_decides 13 = .ok (.iload_n 1, 1) := by decide +kernel
theorem dX12_decides_14 : decode cX12_decides 14 = .ok (.invokevirtual 164, 3) := by decide +kernel
theorem dX12_decides_17 : decode cX12_decides 17 = .ok (.istore_n 3, 1) := by decide +kernel
theorem dX12_decides_18 : decode cX12_decides 18 = .ok (.aload_n 0, 1) := by decide +kernel
theorem dX12_decides_19 : decode cX12_decides 19 = .ok (.iload_n 1, 1) := by decide +kernel
theorem dX12_decides_20 : decode cX12_decides 20 = .ok (.bipush 6, 2) := by decide +kernel
theorem dX12_decides_22 : decode cX12_decides 22 = .ok (.iconst 0, 1) := by decide +kernel
theorem dX12_decides_23 : decode cX12_decides 23 = .ok (.invokevirtual 139, 3) := by decide +kernel
theorem dX12_decides_26 : decode cX12_decides 26 = .ok (.iload_n 3, 1) := by decide +kernel
theorem dX12_decides_27 : decode cX12_decides 27 = .ok (.ifCond .eq 53, 3) := by decide +kernel
theorem dX12_decides_30 : decode cX12_decides 30 = .ok (.aload_n 0, 1) := by decide +kernel
theorem dX12_decides_31 : decode cX12_decides 31 = .ok (.iload_n 1, 1) := by decide +kernel
theorem dX12_decides_32 : decode cX12_decides 32 = .ok (.iconst 4, 1) := by decide +kernel
theorem dX12_decides_33 : decode cX12_decides 33 = .ok (.bipush 114, 2) := by decide +kernel
theorem dX12_decides_35 : decode cX12_decides 35 = .ok (.invokevirtual 139, 3) := by decide +kernel
theorem dX12_decides_38 : decode cX12_decides 38 = .ok (.aload_n 0, 1) := by decide +kernel
theorem dX12_decides_39 : decode cX12_decides 39 = .ok (.getfield 9, 3) := by decide +kernel
theorem dX12_decides_42 : decode cX12_decides 42 = .ok (.iload_n 2, 1) := by decide +kernel
theorem dX12_decides_43 : decode cX12_decides 43 = .ok (.iconst 2, 1) := by decide +kernel
theorem dX12_decides_44 : decode cX12_decides 44 = .ok (.iadd, 1) := by decide +kernel
theorem dX12_decides_45 : decode cX12_decides 45 = .ok (.dup2, 1) := by decide +kernel
theorem dX12_decides_46 : decode cX12_decides 46 = .ok (.iaload, 1) := by decide +kernel
theorem dX12_decides_47 : decode cX12_decides 47 = .ok (.iconst 1, 1) := by decide +kernel
theorem dX12_decides_48 : decode cX12_decides 48 = .ok (.iadd, 1) := by decide +kernel
theorem dX12_decides_49 : decode cX12_decides 49 = .ok (.iastore, 1) := by decide +kernel
theorem dX12_decides_50 : decode cX12_decides 50 = .ok (.aload_n 0, 1) := by decide +kernel
theorem dX12_decides_51 : decode cX12_decides 51 = .ok (.getfield 9, 3) := by decide +kernel
theorem dX12_decides_54 : decode cX12_decides 54 = .ok (.iload_n 2, 1) := by decide +kernel
theorem dX12_decides_55 : decode cX12_decides 55 = .ok (.iconst 3, 1) := by decide +kernel
theorem dX12_decides_56 : decode cX12_decides 56 = .ok (.iadd, 1) := by decide +kernel
theorem dX12_decides_57 : decode cX12_decides 57 = .ok (.aload_n 0, 1) := by decide +kernel
theorem dX12_decides_58 : decode cX12_decides 58 = .ok (.iload_n 1, 1) := by decide +kernel
theorem dX12_decides_59 : decode cX12_decides 59 = .ok (.iconst 3, 1) := by decide +kernel
theorem dX12_decides_60 : decode cX12_decides 60 = .ok (.invokevirtual 61, 3) := by decide +kernel
theorem dX12_decides_63 : decode cX12_decides 63 = .ok (.iconst 1, 1) := by decide +kernel
theorem dX12_decides_64 : decode cX12_decides 64 = .ok (.iadd, 1) := by decide +kernel
theorem dX12_decides_65 : decode cX12_decides 65 = .ok (.iastore, 1) := by decide +kernel
theorem dX12_decides_66 : decode cX12_decides 66 = .ok (.aload_n 0, 1) := by decide +kernel
theorem dX12_decides_67 : decode cX12_decides 67 = .ok (.getfield 9, 3) := by decide +kernel
theorem dX12_decides_70 : decode cX12_decides 70 = .ok (.bipush 6, 2) := by decide +kernel
theorem dX12_decides_72 : decode cX12_decides 72 = .ok (.dup2, 1) := by decide +kernel
theorem dX12_decides_73 : decode cX12_decides 73 = .ok (.iaload, 1) := by decide +kernel
theorem dX12_decides_74 : decode cX12_decides 74 = .ok (.iconst 1, 1) := by decide +kernel
theorem dX12_decides_75 : decode cX12_decides 75 = .ok (.iadd, 1) := by decide +kernel
theorem dX12_decides_76 : decode cX12_decides 76 = .ok (.iastore, 1) := by decide +kernel
theorem dX12_decides_77 : decode cX12_decides 77 = .ok (.goto 51, 3) := by decide +kernel
theorem dX12_decides_80 : decode cX12_decides 80 = .ok (.aload_n 0, 1) := by decide +kernel
theorem dX12_decides_81 : decode cX12_decides 81 = .ok (.iload_n 1, 1) := by decide +kernel
theorem dX12_decides_82 : decode cX12_decides 82 = .ok (.iconst 5, 1) := by decide +kernel
theorem dX12_decides_83 : decode cX12_decides 83 = .ok (.aload_n 0, 1) := by decide +kernel
theorem dX12_decides_84 : decode cX12_decides 84 = .ok (.iload_n 1, 1) := by decide +kernel
theorem dX12_decides_85 : decode cX12_decides 85 = .ok (.iconst 5, 1) := by decide +kernel
theorem dX12_decides_86 : decode cX12_decides 86 = .ok (.invokevirtual 61, 3) := by decide +kernel
theorem dX12_decides_89 : decode cX12_decides 89 = .ok (.iconst 1, 1) := by decide +kernel
theorem dX12_decides_90 : decode cX12_decides 90 = .ok (.iadd, 1) := by decide +kernel
theorem dX12_decides_91 : decode cX12_decides 91 = .ok (.invokevirtual 139, 3) := by decide +kernel
theorem dX12_decides_94 : decode cX12_decides 94 = .ok (.aload_n 0, 1) := by decide +kernel
theorem dX12_decides_95 : decode cX12_decides 95 = .ok (.iload_n 1, 1) := by decide +kernel
theorem dX12_decides_96 : decode cX12_decides 96 = .ok (.iconst 4, 1) := by decide +kernel
theorem dX12_decides_97 : decode cX12_decides 97 = .ok (.aload_n 0, 1) := by decide +kernel
theorem dX12_decides_98 : decode cX12_decides 98 = .ok (.iload_n 1, 1) := by decide +kernel
theorem dX12_decides_99 : decode cX12_decides 99 = .ok (.iconst 5, 1) := by decide +kernel
theorem dX12_decides_100 : decode cX12_decides 100 = .ok (.invokevirtual 61, 3) := by decide +kernel
theorem dX12_decides_103 : decode cX12_decides 103 = .ok (.iconst 3, 1) := by decide +kernel
theorem dX12_decides_104 : decode cX12_decides 104 = .ok (.if_icmp .ne 8, 3) := by decide +kernel
theorem dX12_decides_107 : decode cX12_decides 107 = .ok (.bipush 108, 2) := by decide +kernel
theorem dX12_decides_109 : decode cX12_decides 109 = .ok (.goto 5, 3) := by decide +kernel
theorem dX12_decides_112 : decode cX12_decides 112 = .ok (.bipush 119, 2) := by decide +kernel
theorem dX12_decides_114 : decode cX12_decides 114 = .ok (.invokevirtual 139, 3) := by decide +kernel
theorem dX12_decides_117 : decode cX12_decides 117 = .ok (.aload_n 0, 1) := by decide +kernel
theorem dX12_decides_118 : decode cX12_decides 118 = .ok (.getfield 9, 3) := by decide +kernel
theorem dX12_decides_121 : decode cX12_decides 121 = .ok (.bipush 7, 2) := by decide +kernel
theorem dX12_decides_123 : decode cX12_decides 123 = .ok (.dup2, 1) := by decide +kernel
theorem dX12_decides_124 : decode cX12_decides 124 = .ok (.iaload, 1) := by decide +kernel
theorem dX12_decides_125 : decode cX12_decides 125 = .ok (.iconst 1, 1) := by decide +kernel
theorem dX12_decides_126 : decode cX12_decides 126 = .ok (.iadd, 1) := by decide +kernel
theorem dX12_decides_127 : decode cX12_decides 127 = .ok (.iastore, 1) := by decide +kernel
theorem dX12_decides_128 : decode cX12_decides 128 = .ok (.return_, 1) := by decide +kernel
theorem dX12_ticksOnce_0 : decode cX12_ticksOnce 0 = .ok (.aload_n 0, 1) := by decide +kernel
theorem dX12_ticksOnce_1 : decode cX12_ticksOnce 1 = .ok (.invokevirtual 167, 3) := by decide +kernel
theorem dX12_ticksOnce_4 : decode cX12_ticksOnce 4 = .ok (.iconst 0, 1) := by decide +kernel
theorem dX12_ticksOnce_5 : decode cX12_ticksOnce 5 = .ok (.istore_n 1, 1) := by decide +kernel
theorem dX12_ticksOnce_6 : decode cX12_ticksOnce 6 = .ok (.iload_n 1, 1) := by decide +kernel
theorem dX12_ticksOnce_7 : decode cX12_ticksOnce 7 = .ok (.aload_n 0, 1) := by decide +kernel
theorem dX12_ticksOnce_8 : decode cX12_ticksOnce 8 = .ok (.getfield 9, 3) := by decide +kernel
theorem dX12_ticksOnce_11 : decode cX12_ticksOnce 11 = .ok (.iconst 2, 1) := by decide +kernel
theorem dX12_ticksOnce_12 : decode cX12_ticksOnce 12 = .ok (.iaload, 1) := by decide +kernel
theorem dX12_ticksOnce_13 : decode cX12_ticksOnce 13 = .ok (.if_icmp .ge 25, 3) := by decide +kernel
theorem dX12_ticksOnce_16 : decode cX12_ticksOnce 16 = .ok (.aload_n 0, 1) := by decide +kernel
theorem dX12_ticksOnce_17 : decode cX12_ticksOnce 17 = .ok (.iload_n 1, 1) := by decide +kernel
theorem dX12_ticksOnce_18 : decode cX12_ticksOnce 18 = .ok (.iconst 4, 1) := by decide +kernel
theorem dX12_ticksOnce_19 : decode cX12_ticksOnce 19 = .ok (.invokevirtual 61, 3) := by decide +kernel
theorem dX12_ticksOnce_22 : decode cX12_ticksOnce 22 = .ok (.bipush 100, 2) := by decide +kernel
theorem dX12_ticksOnce_24 : decode cX12_ticksOnce 24 = .ok (.if_icmp .ne 8, 3) := by decide +kernel
theorem dX12_ticksOnce_27 : decode cX12_ticksOnce 27 = .ok (.aload_n 0, 1) := by decide +kernel
theorem dX12_ticksOnce_28 : decode cX12_ticksOnce 28 = .ok (.iload_n 1, 1) := by decide +kernel
theorem dX12_ticksOnce_29 : decode cX12_ticksOnce 29 = .ok (.invokevirtual 170, 3) := by decide +kernel
theorem dX12_ticksOnce_32 : decode cX12_ticksOnce 32 = .ok (.iinc 1 1, 3) := by decide +kernel
theorem dX12_ticksOnce_35 : decode cX12_ticksOnce 35 = .ok (.goto (-29), 3) := by decide +kernel
theorem dX12_ticksOnce_38 : decode cX12_ticksOnce 38 = .ok (.iconst 0, 1) := by decide +kernel
theorem dX12_ticksOnce_39 : decode cX12_ticksOnce 39 = .ok (.istore_n 1, 1) := by decide +kernel
theorem dX12_ticksOnce_40 : decode cX12_ticksOnce 40 = .ok (.iload_n 1, 1) := by decide +kernel
theorem dX12_ticksOnce_41 : decode cX12_ticksOnce 41 = .ok (.aload_n 0, 1) := by decide +kernel
theorem dX12_ticksOnce_42 : decode cX12_ticksOnce 42 = .ok (.getfield 9, 3) := by decide +kernel
theorem dX12_ticksOnce_45 : decode cX12_ticksOnce 45 = .ok (.iconst 2, 1) := by decide +kernel
theorem dX12_ticksOnce_46 : decode cX12_ticksOnce 46 = .ok (.iaload, 1) := by decide +kernel
theorem dX12_ticksOnce_47 : decode cX12_ticksOnce 47 = .ok (.if_icmp .ge 36, 3) := by decide +kernel
theorem dX12_ticksOnce_50 : decode cX12_ticksOnce 50 = .ok (.aload_n 0, 1) := by decide +kernel
theorem dX12_ticksOnce_51 : decode cX12_ticksOnce 51 = .ok (.iload_n 1, 1) := by decide +kernel
theorem dX12_ticksOnce_52 : decode cX12_ticksOnce 52 = .ok (.iconst 4, 1) := by decide +kernel
theorem dX12_ticksOnce_53 : decode cX12_ticksOnce 53 = .ok (.invokevirtual 61, 3) := by decide +kernel
theorem dX12_ticksOnce_56 : decode cX12_ticksOnce 56 = .ok (.bipush 100, 2) := by decide +kernel
theorem dX12_ticksOnce_58 : decode cX12_ticksOnce 58 = .ok (.if_icmp .ne 19, 3) := by decide +kernel
theorem dX12_ticksOnce_61 : decode cX12_ticksOnce 61 = .ok (.aload_n 0, 1) := by decide +kernel
theorem dX12_ticksOnce_62 : decode cX12_ticksOnce 62 = .ok (.iload_n 1, 1) := by decide +kernel
theorem dX12_ticksOnce_63 : decode cX12_ticksOnce 63 = .ok (.bipush 6, 2) := by decide +kernel
theorem dX12_ticksOnce_65 : decode cX12_ticksOnce 65 = .ok (.invokevirtual 61, 3) := by decide +kernel
theorem dX12_ticksOnce_68 : decode cX12_ticksOnce 68 = .ok (.iconst 5, 1) := by decide +kernel
theorem dX12_ticksOnce_69 : decode cX12_ticksOnce 69 = .ok (.if_icmp .ne 8, 3) := by decide +kernel
theorem dX12_ticksOnce_72 : decode cX12_ticksOnce 72 = .ok (.aload_n 0, 1) := by decide +kernel
theorem dX12_ticksOnce_73 : decode cX12_ticksOnce 73 = .ok (.iload_n 1, 1) := by decide +kernel
theorem dX12_ticksOnce_74 : decode cX12_ticksOnce 74 = .ok (.invokevirtual 173, 3) := by decide +kernel
theorem dX12_ticksOnce_77 : decode cX12_ticksOnce 77 = .ok (.iinc 1 1, 3) := by decide +kernel
theorem dX12_ticksOnce_80 : decode cX12_ticksOnce 80 = .ok (.goto (-40), 3) := by decide +kernel
theorem dX12_ticksOnce_83 : decode cX12_ticksOnce 83 = .ok (.aload_n 0, 1) := by decide +kernel
theorem dX12_ticksOnce_84 : decode cX12_ticksOnce 84 = .ok (.getfield 9, 3) := by decide +kernel
theorem dX12_ticksOnce_87 : decode cX12_ticksOnce 87 = .ok (.iconst 4, 1) := by decide +kernel
theorem dX12_ticksOnce_88 : decode cX12_ticksOnce 88 = .ok (.dup2, 1) := by decide +kernel
theorem dX12_ticksOnce_89 : decode cX12_ticksOnce 89 = .ok (.iaload, 1) := by decide +kernel
theorem dX12_ticksOnce_90 : decode cX12_ticksOnce 90 = .ok (.iconst 1, 1) := by decide +kernel
theorem dX12_ticksOnce_91 : decode cX12_ticksOnce 91 = .ok (.iadd, 1) := by decide +kernel
theorem dX12_ticksOnce_92 : decode cX12_ticksOnce 92 = .ok (.iastore, 1) := by decide +kernel
theorem dX12_ticksOnce_93 : decode cX12_ticksOnce 93 = .ok (.iconst 0, 1) := by decide +kernel
theorem dX12_ticksOnce_94 : decode cX12_ticksOnce 94 = .ok (.istore_n 1, 1) := by decide +kernel
theorem dX12_ticksOnce_95 : decode cX12_ticksOnce 95 = .ok (.iload_n 1, 1) := by decide +kernel
theorem dX12_ticksOnce_96 : decode cX12_ticksOnce 96 = .ok (.bipush 8, 2) := by decide +kernel
theorem dX12_ticksOnce_98 : decode cX12_ticksOnce 98 = .ok (.if_icmp .ge 31, 3) := by decide +kernel
theorem dX12_ticksOnce_101 : decode cX12_ticksOnce 101 = .ok (.aload_n 0, 1) := by decide +kernel
theorem dX12_ticksOnce_102 : decode cX12_ticksOnce 102 = .ok (.getfield 9, 3) := by decide +kernel
theorem dX12_ticksOnce_105 : decode cX12_ticksOnce 105 = .ok (.aload_n 0, 1) := by decide +kernel
theorem dX12_ticksOnce_106 : decode cX12_ticksOnce 106 = .ok (.iload_n 1, 1) := by decide +kernel
theorem dX12_ticksOnce_107 : decode cX12_ticksOnce 107 = .ok (.aload_n 0, 1) := by decide +kernel
theorem dX12_ticksOnce_108 : decode cX12_ticksOnce 108 = .ok (.getfield 9, 3) := by decide +kernel
theorem dX12_ticksOnce_111 : decode cX12_ticksOnce 111 = .ok (.iconst 4, 1) := by decide +kernel
theorem dX12_ticksOnce_112 : decode cX12_ticksOnce 112 = .ok (.iaload, 1) := by decide +kernel
theorem dX12_ticksOnce_113 : decode cX12_ticksOnce 113 = .ok (.bipush 20, 2) := by decide +kernel
theorem dX12_ticksOnce_115 : decode cX12_ticksOnce 115 = .ok (.isub, 1) := by decide +kernel
theorem dX12_ticksOnce_116 : decode cX12_ticksOnce 116 = .ok (.iconst 1, 1) := by decide +kernel
theorem dX12_ticksOnce_117 : decode cX12_ticksOnce 117 = .ok (.isub, 1) := by decide +kernel
theorem dX12_ticksOnce_118 : decode cX12_ticksOnce 118 = .ok (.invokevirtual 161, 3) := by decide +kernel
theorem dX12_ticksOnce_121 : decode cX12_ticksOnce 121 = .ok (.iconst 0, 1) := by decide +kernel
theorem dX12_ticksOnce_122 : decode cX12_ticksOnce 122 = .ok (.iastore, 1) := by decide +kernel
theorem dX12_ticksOnce_123 : decode cX12_ticksOnce 123 = .ok (.iinc 1 1, 3) := by decide +kernel
theorem dX12_ticksOnce_126 : decode cX12_ticksOnce 126 = .ok (.goto (-31), 3) := by decide +kernel
theorem dX12_ticksOnce_129 : decode cX12_ticksOnce 129 = .ok (.return_, 1) := by decide +kernel
theorem dX12_doPassTicks_0 : decode cX12_doPassTicks 0 = .ok (.iload_n 1, 1) := by decide +kernel
theorem dX12_doPassTicks_1 : decode cX12_doPassTicks 1 = .ok (.iconst 1, 1) := by decide +kernel
theorem dX12_doPassTicks_2 : decode cX12_doPassTicks 2 = .ok (.bipush 40, 2) := by decide +kernel
theorem dX12_doPassTicks_4 : decode cX12_doPassTicks 4 = .ok (.invokestatic 57, 3) := by decide +kernel
theorem dX12_doPassTicks_7 : decode cX12_doPassTicks 7 = .ok (.ifCond .ne 9, 3) := by decide +kernel
theorem dX12_doPassTicks_10 : decode cX12_doPassTicks 10 = .ok (.aload_n 0, 1) := by decide +kernel
theorem dX12_doPassTicks_11 : decode cX12_doPassTicks 11 = .ok (.iconst 1, 1) := by decide +kernel
theorem dX12_doPassTicks_12 : decode cX12_doPassTicks 12 = .ok (.invokevirtual 71, 3) := by decide +kernel
theorem dX12_doPassTicks_15 : decode cX12_doPassTicks 15 = .ok (.ireturn, 1) := by decide +kernel
theorem dX12_doPassTicks_16 : decode cX12_doPassTicks 16 = .ok (.aload_n 0, 1) := by decide +kernel
theorem dX12_doPassTicks_17 : decode cX12_doPassTicks 17 = .ok (.getfield 9, 3) := by decide +kernel
theorem dX12_doPassTicks_20 : decode cX12_doPassTicks 20 = .ok (.bipush 6, 2) := by decide +kernel
theorem dX12_doPassTicks_22 : decode cX12_doPassTicks 22 = .ok (.iaload, 1) := by decide +kernel
theorem dX12_doPassTicks_23 : decode cX12_doPassTicks 23 = .ok (.istore_n 2, 1) := by decide +kernel
theorem dX12_doPassTicks_24 : decode cX12_doPassTicks 24 = .ok (.iconst 0, 1) := by decide +kernel
theorem dX12_doPassTicks_25 : decode cX12_doPassTicks 25 = .ok (.istore_n 3, 1) := by decide +kernel
theorem dX12_doPassTicks_26 : decode cX12_doPassTicks 26 = .ok (.iload_n 3, 1) := by decide +kernel
theorem dX12_doPassTicks_27 : decode cX12_doPassTicks 27 = .ok (.iload_n 1, 1) := by decide +kernel
theorem dX12_doPassTicks_28 : decode cX12_doPassTicks 28 = .ok (.if_icmp .ge 13, 3) := by decide +kernel
theorem dX12_doPassTicks_31 : decode cX12_doPassTicks 31 = .ok (.aload_n 0, 1) := by decide +kernel
theorem dX12_doPassTicks_32 : decode cX12_doPassTicks 32 = .ok (.invokevirtual 176, 3) := by decide +kernel
theorem dX12_doPassTicks_35 : decode cX12_doPassTicks 35 = .ok (.iinc 3 1, 3) := by decide +kernel
theorem dX12_doPassTicks_38 : decode cX12_doPassTicks 38 = .ok (.goto (-12), 3) := by decide +kernel
theorem dX12_doPassTicks_41 : decode cX12_doPassTicks 41 = .ok (.aload_n 0, 1) := by decide +kernel
theorem dX12_doPassTicks_42 : decode cX12_doPassTicks 42 = .ok (.getfield 9, 3) := by decide +kernel
theorem dX12_doPassTicks_45 : decode cX12_doPassTicks 45 = .ok (.bipush 6, 2) := by decide +kernel
theorem dX12_doPassTicks_47 : decode cX12_doPassTicks 47 = .ok (.iaload, 1) := by decide +kernel
theorem dX12_doPassTicks_48 : decode cX12_doPassTicks 48 = .ok (.iload_n 2, 1) := by decide +kernel
theorem dX12_doPassTicks_49 : decode cX12_doPassTicks 49 = .ok (.isub, 1) := by decide +kernel
theorem dX12_doPassTicks_50 : decode cX12_doPassTicks 50 = .ok (.ireturn, 1) := by decide +kernel
theorem dX12_passTicks_0 : decode cX12_passTicks 0 = .ok (.aload_n 0, 1) := by decide +kernel
theorem dX12_passTicks_1 : decode cX12_passTicks 1 = .ok (.invokevirtual 75, 3) := by decide +kernel
theorem dX12_passTicks_4 : decode cX12_passTicks 4 = .ok (.aload_n 0, 1) := by decide +kernel
theorem dX12_passTicks_5 : decode cX12_passTicks 5 = .ok (.aload_n 0, 1) := by decide +kernel
theorem dX12_passTicks_6 : decode cX12_passTicks 6 = .ok (.iload_n 1, 1) := by decide +kernel
theorem dX12_passTicks_7 : decode cX12_passTicks 7 = .ok (.invokevirtual 179, 3) := by decide +kernel
theorem dX12_passTicks_10 : decode cX12_passTicks 10 = .ok (.invokevirtual 82, 3) := by decide +kernel
theorem dX12_passTicks_13 : decode cX12_passTicks 13 = .ok (.ireturn, 1) := by decide +kernel
theorem dX12_ticksUntilDelivery_0 : decode cX12_ticksUntilDelivery 0 = .ok (.aload_n 0, 1) := by decide +kernel
theorem dX12_ticksUntilDelivery_1 : decode cX12_ticksUntilDelivery 1 = .ok (.iload_n 1, 1) := by decide +kernel
theorem dX12_ticksUntilDelivery_2 : decode cX12_ticksUntilDelivery 2 = .ok (.invokevirtual 146, 3) := by decide +kernel
theorem dX12_ticksUntilDelivery_5 : decode cX12_ticksUntilDelivery 5 = .ok (.istore_n 2, 1) := by decide +kernel
theorem dX12_ticksUntilDelivery_6 : decode cX12_ticksUntilDelivery 6 = .ok (.iload_n 2, 1) := by decide +kernel
theorem dX12_ticksUntilDelivery_7 : decode cX12_ticksUntilDelivery 7 = .ok (.ifCond .ge 8, 3) := by decide +kernel
theorem dX12_ticksUntilDelivery_10 : decode cX12_ticksUntilDelivery 10 = .ok (.bipush 120, 2) := by decide +kernel
theorem dX12_ticksUntilDelivery_12 : decode cX12_ticksUntilDelivery 12 = .ok (.goto 9, 3) := by decide +kernel
theorem dX12_ticksUntilDelivery_15 : decode cX12_ticksUntilDelivery 15 = .ok (.aload_n 0, 1) := by decide +kernel
theorem dX12_ticksUntilDelivery_16 : decode cX12_ticksUntilDelivery 16 = .ok (.iload_n 2, 1) := by decide +kernel
theorem dX12_ticksUntilDelivery_17 : decode cX12_ticksUntilDelivery 17 = .ok (.iconst 4, 1) := by decide +kernel
theorem dX12_ticksUntilDelivery_18 : decode cX12_ticksUntilDelivery 18 = .ok (.invokevirtual 61, 3) := by decide +kernel
theorem dX12_ticksUntilDelivery_21 : decode cX12_ticksUntilDelivery 21 = .ok (.istore_n 3, 1) := by decide +kernel
theorem dX12_ticksUntilDelivery_22 : decode cX12_ticksUntilDelivery 22 = .ok (.aload_n 0, 1) := by decide +kernel
theorem dX12_ticksUntilDelivery_23 : decode cX12_ticksUntilDelivery 23 = .ok (.iload_n 2, 1) := by decide +kernel
theorem dX12_ticksUntilDelivery_24 : decode cX12_ticksUntilDelivery 24 = .ok (.ifCond .ge 7, 3) := by decide +kernel
theorem dX12_ticksUntilDelivery_27 : decode cX12_ticksUntilDelivery 27 = .ok (.iconst 1, 1) := by decide +kernel
theorem dX12_ticksUntilDelivery_28 : decode cX12_ticksUntilDelivery 28 = .ok (.goto 20, 3) := by decide +kernel
theorem dX12_ticksUntilDelivery_31 : decode cX12_ticksUntilDelivery 31 = .ok (.iload_n 3, 1) := by decide +kernel
theorem dX12_ticksUntilDelivery_32 : decode cX12_ticksUntilDelivery 32 = .ok (.bipush 114, 2) := by decide +kernel
theorem dX12_ticksUntilDelivery_34 : decode cX12_ticksUntilDelivery 34 = .ok (.if_icmp .eq 9, 3) := by decide +kernel
theorem dX12_ticksUntilDelivery_37 : decode cX12_ticksUntilDelivery 37 = .ok (.iload_n 3, 1) := by decide +kernel
theorem dX12_ticksUntilDelivery_38 : decode cX12_ticksUntilDelivery 38 = .ok (.bipush 108, 2) := by decide +kernel
theorem dX12_ticksUntilDelivery_40 : decode cX12_ticksUntilDelivery 40 = .ok (.if_icmp .ne 7, 3) := by decide +kernel
theorem dX12_ticksUntilDelivery_43 : decode cX12_ticksUntilDelivery 43 = .ok (.iconst 2, 1) := by decide +kernel
theorem dX12_ticksUntilDelivery_44 : decode cX12_ticksUntilDelivery 44 = .ok (.goto 4, 3) := by decide +kernel
theorem dX12_ticksUntilDelivery_47 : decode cX12_ticksUntilDelivery 47 = .ok (.iconst 0, 1) := by decide +kernel
theorem dX12_ticksUntilDelivery_48 : decode cX12_ticksUntilDelivery 48 = .ok (.putfield 45, 3) := by decide +kernel
theorem dX12_ticksUntilDelivery_51 : decode cX12_ticksUntilDelivery 51 = .ok (.aload_n 0, 1) := by decide +kernel
theorem dX12_ticksUntilDelivery_52 : decode cX12_ticksUntilDelivery 52 = .ok (.getfield 45, 3) := by decide +kernel
theorem dX12_ticksUntilDelivery_55 : decode cX12_ticksUntilDelivery 55 = .ok (.ifCond .le 5, 3) := by decide +kernel
theorem dX12_ticksUntilDelivery_58 : decode cX12_ticksUntilDelivery 58 = .ok (.iconst 0, 1) := by decide +kernel
theorem dX12_ticksUntilDelivery_59 : decode cX12_ticksUntilDelivery 59 = .ok (.ireturn, 1) := by decide +kernel
theorem dX12_ticksUntilDelivery_60 : decode cX12_ticksUntilDelivery 60 = .ok (.aload_n 0, 1) := by decide +kernel
theorem dX12_ticksUntilDelivery_61 : decode cX12_ticksUntilDelivery 61 = .ok (.getfield 9, 3) := by decide +kernel
theorem dX12_ticksUntilDelivery_64 : decode cX12_ticksUntilDelivery 64 = .ok (.iconst 0, 1) := by decide +kernel
theorem dX12_ticksUntilDelivery_65 : decode cX12_ticksUntilDelivery 65 = .ok (.aload_n 0, 1) := by decide +kernel
theorem dX12_ticksUntilDelivery_66 : decode cX12_ticksUntilDelivery 66 = .ok (.getfield 16, 3) := by decide +kernel
theorem dX12_ticksUntilDelivery_69 : decode cX12_ticksUntilDelivery 69 = .ok (.iconst 0, 1) := by decide +kernel
theorem dX12_ticksUntilDelivery_70 : decode cX12_ticksUntilDelivery 70 = .ok (.sipush 1496, 3) := by decide +kernel
theorem dX12_ticksUntilDelivery_73 : decode cX12_ticksUntilDelivery 73 = .ok (.invokestatic 48, 3) := by decide +kernel
theorem dX12_ticksUntilDelivery_76 : decode cX12_ticksUntilDelivery 76 = .ok (.iconst 0, 1) := by decide +kernel
theorem dX12_ticksUntilDelivery_77 : decode cX12_ticksUntilDelivery 77 = .ok (.istore 4, 2) := by decide +kernel
theorem dX12_ticksUntilDelivery_79 : decode cX12_ticksUntilDelivery 79 = .ok (.iload 4, 2) := by decide +kernel
theorem dX12_ticksUntilDelivery_81 : decode cX12_ticksUntilDelivery 81 = .ok (.bipush 60, 2) := by decide +kernel
theorem dX12_ticksUntilDelivery_83 : decode cX12_ticksUntilDelivery 83 = .ok (.if_icmp .ge 24, 3) := by decide +kernel
theorem dX12_ticksUntilDelivery_86 : decode cX12_ticksUntilDelivery 86 = .ok (.aload_n 0, 1) := by decide +kernel
theorem dX12_ticksUntilDelivery_87 : decode cX12_ticksUntilDelivery 87 = .ok (.iload_n 2, 1) := by decide +kernel
theorem dX12_ticksUntilDelivery_88 : decode cX12_ticksUntilDelivery 88 = .ok (.iconst 4, 1) := by decide +kernel
theorem dX12_ticksUntilDelivery_89 : decode cX12_ticksUntilDelivery 89 = .ok (.invokevirtual 61, 3) := by decide +kernel
theorem dX12_ticksUntilDelivery_92 : decode cX12_ticksUntilDelivery 92 = .ok (.bipush 114, 2) := by decide +kernel
theorem dX12_ticksUntilDelivery_94 : decode cX12_ticksUntilDelivery 94 = .ok (.if_icmp .eq 13, 3) := by decide +kernel
theorem dX12_ticksUntilDelivery_97 : decode cX12_ticksUntilDelivery 97 = .ok (.aload_n 0, 1) := by decide +kernel
theorem dX12_ticksUntilDelivery_98 : decode cX12_ticksUntilDelivery 98 = .ok (.invokevirtual 176, 3) := by decide +kernel
theorem dX12_ticksUntilDelivery_101 : decode cX12_ticksUntilDelivery 101 = .ok (.iinc 4 1, 3) := by decide +kernel
theorem dX12_ticksUntilDelivery_104 : decode cX12_ticksUntilDelivery 104 = .ok (.goto (-25), 3) := by decide +kernel
theorem dX12_ticksUntilDelivery_107 : decode cX12_ticksUntilDelivery 107 = .ok (.aload_n 0, 1) := by decide +kernel
theorem dX12_ticksUntilDelivery_108 : decode cX12_ticksUntilDelivery 108 = .ok (.iload_n 2, 1) := by decide +kernel
theorem dX12_ticksUntilDelivery_109 : decode cX12_ticksUntilDelivery 109 = .ok (.iconst 4, 1) := by decide +kernel
theorem dX12_ticksUntilDelivery_110 : decode cX12_ticksUntilDelivery 110 = .ok (.invokevirtual 61, 3) := by decide +kernel
theorem dX12_ticksUntilDelivery_113 : decode cX12_ticksUntilDelivery 113 = .ok (.bipush 114, 2) := by decide +kernel
theorem dX12_ticksUntilDelivery_115 : decode cX12_ticksUntilDelivery 115 = .ok (.if_icmp .ne 7, 3) := by decide +kernel
theorem dX12_ticksUntilDelivery_118 : decode cX12_ticksUntilDelivery 118 = .ok (.iconst 1, 1) := by decide +kernel
theorem dX12_ticksUntilDelivery_119 : decode cX12_ticksUntilDelivery 119 = .ok (.goto 4, 3) := by decide +kernel
theorem dX12_ticksUntilDelivery_122 : decode cX12_ticksUntilDelivery 122 = .ok (.iconst 0, 1) := by decide +kernel
theorem dX12_ticksUntilDelivery_123 : decode cX12_ticksUntilDelivery 123 = .ok (.istore 5, 2) := by decide +kernel
theorem dX12_ticksUntilDelivery_125 : decode cX12_ticksUntilDelivery 125 = .ok (.aload_n 0, 1) := by decide +kernel
theorem dX12_ticksUntilDelivery_126 : decode cX12_ticksUntilDelivery 126 = .ok (.getfield 16, 3) := by decide +kernel
theorem dX12_ticksUntilDelivery_129 : decode cX12_ticksUntilDelivery 129 = .ok (.iconst 0, 1) := by decide +kernel
theorem dX12_ticksUntilDelivery_130 : decode cX12_ticksUntilDelivery 130 = .ok (.aload_n 0, 1) := by decide +kernel
theorem dX12_ticksUntilDelivery_131 : decode cX12_ticksUntilDelivery 131 = .ok (.getfield 9, 3) := by decide +kernel
theorem dX12_ticksUntilDelivery_134 : decode cX12_ticksUntilDelivery 134 = .ok (.iconst 0, 1) := by decide +kernel
theorem dX12_ticksUntilDelivery_135 : decode cX12_ticksUntilDelivery 135 = .ok (.sipush 1496, 3) := by decide +kernel
theorem dX12_ticksUntilDelivery_138 : decode cX12_ticksUntilDelivery 138 = .ok (.invokestatic 48, 3) := by decide +kernel
theorem dX12_ticksUntilDelivery_141 : decode cX12_ticksUntilDelivery 141 = .ok (.aload_n 0, 1) := by decide +kernel
theorem dX12_ticksUntilDelivery_142 : decode cX12_ticksUntilDelivery 142 = .ok (.iload 5, 2) := by decide +kernel
theorem dX12_ticksUntilDelivery_144 : decode cX12_ticksUntilDelivery 144 = .ok (.ifCond .eq 7, 3) := by decide +kernel
theorem dX12_ticksUntilDelivery_147 : decode cX12_ticksUntilDelivery 147 = .ok (.iconst 0, 1) := by decide +kernel
theorem dX12_ticksUntilDelivery_148 : decode cX12_ticksUntilDelivery 148 = .ok (.goto 4, 3) := by decide +kernel
theorem dX12_ticksUntilDelivery_151 : decode cX12_ticksUntilDelivery 151 = .ok (.iconst 3, 1) := by decide +kernel
theorem dX12_ticksUntilDelivery_152 : decode cX12_ticksUntilDelivery 152 = .ok (.putfield 45, 3) := by decide +kernel
theorem dX12_ticksUntilDelivery_155 : decode cX12_ticksUntilDelivery 155 = .ok (.iload 5, 2) := by decide +kernel
theorem dX12_ticksUntilDelivery_157 : decode cX12_ticksUntilDelivery 157 = .ok (.ifCond .eq 8, 3) := by decide +kernel
theorem dX12_ticksUntilDelivery_160 : decode cX12_ticksUntilDelivery 160 = .ok (.iload 4, 2) := by decide +kernel
theorem dX12_ticksUntilDelivery_162 : decode cX12_ticksUntilDelivery 162 = .ok (.goto 4, 3) := by decide +kernel
theorem dX12_ticksUntilDelivery_165 : decode cX12_ticksUntilDelivery 165 = .ok (.iconst 0, 1) := by decide +kernel
theorem dX12_ticksUntilDelivery_166 : decode cX12_ticksUntilDelivery 166 = .ok (.ireturn, 1) := by decide +kernel
theorem dX12_ticks_0 : decode cX12_ticks 0 = .ok (.aload_n 0, 1) := by decide +kernel
theorem dX12_ticks_1 : decode cX12_ticks 1 = .ok (.iconst 0, 1) := by decide +kernel
theorem dX12_ticks_2 : decode cX12_ticks 2 = .ok (.putfield 45, 3) := by decide +kernel
theorem dX12_ticks_5 : decode cX12_ticks 5 = .ok (.aload_n 0, 1) := by decide +kernel
theorem dX12_ticks_6 : decode cX12_ticks 6 = .ok (.getfield 9, 3) := by decide +kernel
theorem dX12_ticks_9 : decode cX12_ticks 9 = .ok (.iconst 4, 1) := by decide +kernel
theorem dX12_ticks_10 : decode cX12_ticks 10 = .ok (.iaload, 1) := by decide +kernel
theorem dX12_ticks_11 : decode cX12_ticks 11 = .ok (.ireturn, 1) := by decide +kernel
theorem dX12_thumpsHeard_0 : decode cX12_thumpsHeard 0 = .ok (.aload_n 0, 1) := by decide +kernel
theorem dX12_thumpsHeard_1 : decode cX12_thumpsHeard 1 = .ok (.aload_n 0, 1) := by decide +kernel
theorem dX12_thumpsHeard_2 : decode cX12_thumpsHeard 2 = .ok (.iload_n 1, 1) := by decide +kernel
theorem dX12_thumpsHeard_3 : decode cX12_thumpsHeard 3 = .ok (.invokevirtual 85, 3) := by decide +kernel
theorem dX12_thumpsHeard_6 : decode cX12_thumpsHeard 6 = .ok (.ifCond .ne 7, 3) := by decide +kernel
theorem dX12_thumpsHeard_9 : decode cX12_thumpsHeard 9 = .ok (.iconst 1, 1) := by decide +kernel
theorem dX12_thumpsHeard_10 : decode cX12_thumpsHeard 10 = .ok (.goto 33, 3) := by decide +kernel
theorem dX12_thumpsHeard_13 : decode cX12_thumpsHeard 13 = .ok (.iload_n 2, 1) := by decide +kernel
theorem dX12_thumpsHeard_14 : decode cX12_thumpsHeard 14 = .ok (.aload_n 0, 1) := by decide +kernel
theorem dX12_thumpsHeard_15 : decode cX12_thumpsHeard 15 = .ok (.getfield 9, 3) := by decide +kernel
theorem dX12_thumpsHeard_18 : decode cX12_thumpsHeard 18 = .ok (.iconst 4, 1) := by decide +kernel
theorem dX12_thumpsHeard_19 : decode cX12_thumpsHeard 19 = .ok (.iaload, 1) := by decide +kernel
theorem dX12_thumpsHeard_20 : decode cX12_thumpsHeard 20 = .ok (.bipush 20, 2) := by decide +kernel
theorem dX12_thumpsHeard_22 : decode cX12_thumpsHeard 22 = .ok (.isub, 1) := by decide +kernel
theorem dX12_thumpsHeard_23 : decode cX12_thumpsHeard 23 = .ok (.aload_n 0, 1) := by decide +kernel
theorem dX12_thumpsHeard_24 : decode cX12_thumpsHeard 24 = .ok (.getfield 9, 3) := by decide +kernel
theorem dX12_thumpsHeard_27 : decode cX12_thumpsHeard 27 = .ok (.iconst 4, 1) := by decide +kernel
theorem dX12_thumpsHeard_28 : decode cX12_thumpsHeard 28 = .ok (.iaload, 1) := by decide +kernel
theorem dX12_thumpsHeard_29 : decode cX12_thumpsHeard 29 = .ok (.bipush 80, 2) := by decide +kernel
theorem dX12_thumpsHeard_31 : decode cX12_thumpsHeard 31 = .ok (.iadd, 1) := by decide +kernel
theorem dX12_thumpsHeard_32 : decode cX12_thumpsHeard 32 = .ok (.invokestatic 57, 3) := by decide +kernel
theorem dX12_thumpsHeard_35 : decode cX12_thumpsHeard 35 = .ok (.ifCond .ne 7, 3) := by decide +kernel
theorem dX12_thumpsHeard_38 : decode cX12_thumpsHeard 38 = .ok (.iconst 2, 1) := by decide +kernel
theorem dX12_thumpsHeard_39 : decode cX12_thumpsHeard 39 = .ok (.goto 4, 3) := by decide +kernel
theorem dX12_thumpsHeard_42 : decode cX12_thumpsHeard 42 = .ok (.iconst 0, 1) := by decide +kernel
theorem dX12_thumpsHeard_43 : decode cX12_thumpsHeard 43 = .ok (.putfield 45, 3) := by decide +kernel
theorem dX12_thumpsHeard_46 : decode cX12_thumpsHeard 46 = .ok (.aload_n 0, 1) := by decide +kernel
theorem dX12_thumpsHeard_47 : decode cX12_thumpsHeard 47 = .ok (.getfield 45, 3) := by decide +kernel
theorem dX12_thumpsHeard_50 : decode cX12_thumpsHeard 50 = .ok (.ifCond .le 7, 3) := by decide +kernel
theorem dX12_thumpsHeard_53 : decode cX12_thumpsHeard 53 = .ok (.iconst 0, 1) := by decide +kernel
theorem dX12_thumpsHeard_54 : decode cX12_thumpsHeard 54 = .ok (.goto 14, 3) := by decide +kernel
theorem dX12_thumpsHeard_57 : decode cX12_thumpsHeard 57 = .ok (.aload_n 0, 1) := by decide +kernel
theorem dX12_thumpsHeard_58 : decode cX12_thumpsHeard 58 = .ok (.getfield 9, 3) := by decide +kernel
theorem dX12_thumpsHeard_61 : decode cX12_thumpsHeard 61 = .ok (.aload_n 0, 1) := by decide +kernel
theorem dX12_thumpsHeard_62 : decode cX12_thumpsHeard 62 = .ok (.iload_n 1, 1) := by decide +kernel
theorem dX12_thumpsHeard_63 : decode cX12_thumpsHeard 63 = .ok (.iload_n 2, 1) := by decide +kernel
theorem dX12_thumpsHeard_64 : decode cX12_thumpsHeard 64 = .ok (.invokevirtual 161, 3) := by decide +kernel
theorem dX12_thumpsHeard_67 : decode cX12_thumpsHeard 67 = .ok (.iaload, 1) := by decide +kernel
theorem dX12_thumpsHeard_68 : decode cX12_thumpsHeard 68 = .ok (.ireturn, 1) := by decide +kernel
theorem dX12_thumpsDrummed_0 : decode cX12_thumpsDrummed 0 = .ok (.aload_n 0, 1) := by decide +kernel
theorem dX12_thumpsDrummed_1 : decode cX12_thumpsDrummed 1 = .ok (.iconst 0, 1) := by decide +kernel
theorem dX12_thumpsDrummed_2 : decode cX12_thumpsDrummed 2 = .ok (.putfield 45, 3) := by decide +kernel
theorem dX12_thumpsDrummed_5 : decode cX12_thumpsDrummed 5 = .ok (.aload_n 0, 1) := by decide +kernel
theorem dX12_thumpsDrummed_6 : decode cX12_thumpsDrummed 6 = .ok (.getfield 9, 3) := by decide +kernel
theorem dX12_thumpsDrummed_9 : decode cX12_thumpsDrummed 9 = .ok (.iconst 5, 1) := by decide +kernel
theorem dX12_thumpsDrummed_10 : decode cX12_thumpsDrummed 10 = .ok (.iaload, 1) := by decide +kernel
theorem dX12_thumpsDrummed_11 : decode cX12_thumpsDrummed 11 = .ok (.ireturn, 1) := by decide +kernel
theorem dX12_deliveries_0 : decode cX12_deliveries 0 = .ok (.aload_n 0, 1) := by decide +kernel
theorem dX12_deliveries_1 : decode cX12_deliveries 1 = .ok (.iconst 0, 1) := by decide +kernel
theorem dX12_deliveries_2 : decode cX12_deliveries 2 = .ok (.putfield 45, 3) := by decide +kernel
theorem dX12_deliveries_5 : decode cX12_deliveries 5 = .ok (.aload_n 0, 1) := by decide +kernel
theorem dX12_deliveries_6 : decode cX12_deliveries 6 = .ok (.getfield 9, 3) := by decide +kernel
theorem dX12_deliveries_9 : decode cX12_deliveries 9 = .ok (.bipush 6, 2) := by decide +kernel
theorem dX12_deliveries_11 : decode cX12_deliveries 11 = .ok (.iaload, 1) := by decide +kernel
theorem dX12_deliveries_12 : decode cX12_deliveries 12 = .ok (.ireturn, 1) := by decide +kernel
theorem dX12_losses_0 : decode cX12_losses 0 = .ok (.aload_n 0, 1) := by decide +kernel
theorem dX12_losses_1 : decode cX12_losses 1 = .ok (.iconst 0, 1) := by decide +kernel
theorem dX12_losses_2 : decode cX12_losses 2 = .ok (.putfield 45, 3) := by decide +kernel
theorem dX12_losses_5 : decode cX12_losses 5 = .ok (.aload_n 0, 1) := by decide +kernel
theorem dX12_losses_6 : decode cX12_losses 6 = .ok (.getfield 9, 3) := by decide +kernel
theorem dX12_losses_9 : decode cX12_losses 9 = .ok (.bipush 7, 2) := by decide +kernel
theorem dX12_losses_11 : decode cX12_losses 11 = .ok (.iaload, 1) := by decide +kernel
theorem dX12_losses_12 : decode cX12_losses 12 = .ok (.ireturn, 1) := by decide +kernel
theorem dX12_meanLoudness_0 : decode cX12_meanLoudness 0 = .ok (.aload_n 0, 1) := by decide +kernel
theorem dX12_meanLoudness_1 : decode cX12_meanLoudness 1 = .ok (.aload_n 0, 1) := by decide +kernel
theorem dX12_meanLoudness_2 : decode cX12_meanLoudness 2 = .ok (.iload_n 1, 1) := by decide +kernel
theorem dX12_meanLoudness_3 : decode cX12_meanLoudness 3 = .ok (.invokevirtual 85, 3) := by decide +kernel
theorem dX12_meanLoudness_6 : decode cX12_meanLoudness 6 = .ok (.invokevirtual 106, 3) := by decide +kernel
theorem dX12_meanLoudness_9 : decode cX12_meanLoudness 9 = .ok (.ifCond .ne 5, 3) := by decide +kernel
theorem dX12_meanLoudness_12 : decode cX12_meanLoudness 12 = .ok (.fconst 0, 1) := by decide +kernel
theorem dX12_meanLoudness_13 : decode cX12_meanLoudness 13 = .ok (.freturn, 1) := by decide +kernel
theorem dX12_meanLoudness_14 : decode cX12_meanLoudness 14 = .ok (.fconst 0, 1) := by decide +kernel
theorem dX12_meanLoudness_15 : decode cX12_meanLoudness 15 = .ok (.fstore_n 2, 1) := by decide +kernel
theorem dX12_meanLoudness_16 : decode cX12_meanLoudness 16 = .ok (.iconst 0, 1) := by decide +kernel
theorem dX12_meanLoudness_17 : decode cX12_meanLoudness 17 = .ok (.istore_n 3, 1) := by decide +kernel
theorem dX12_meanLoudness_18 : decode cX12_meanLoudness 18 = .ok (.iload_n 3, 1) := by decide +kernel
theorem dX12_meanLoudness_19 : decode cX12_meanLoudness 19 = .ok (.aload_n 0, 1) := by decide +kernel
theorem dX12_meanLoudness_20 : decode cX12_meanLoudness 20 = .ok (.getfield 9, 3) := by decide +kernel
theorem dX12_meanLoudness_23 : decode cX12_meanLoudness 23 = .ok (.iconst 0, 1) := by decide +kernel
theorem dX12_meanLoudness_24 : decode cX12_meanLoudness 24 = .ok (.iaload, 1) := by decide +kernel
theorem dX12_meanLoudness_25 : decode cX12_meanLoudness 25 = .ok (.if_icmp .ge 18, 3) := by decide +kernel
theorem dX12_meanLoudness_28 : decode cX12_meanLoudness 28 = .ok (.fload_n 2, 1) := by decide +kernel
theorem dX12_meanLoudness_29 : decode cX12_meanLoudness 29 = .ok (.aload_n 0, 1) := by decide +kernel
theorem dX12_meanLoudness_30 : decode cX12_meanLoudness 30 = .ok (.iload_n 3, 1) := by decide +kernel
theorem dX12_meanLoudness_31 : decode cX12_meanLoudness 31 = .ok (.iload_n 1, 1) := by decide +kernel
theorem dX12_meanLoudness_32 : decode cX12_meanLoudness 32 = .ok (.invokevirtual 110, 3) := by decide +kernel
theorem dX12_meanLoudness_35 : decode cX12_meanLoudness 35 = .ok (.fadd, 1) := by decide +kernel
theorem dX12_meanLoudness_36 : decode cX12_meanLoudness 36 = .ok (.fstore_n 2, 1) := by decide +kernel
theorem dX12_meanLoudness_37 : decode cX12_meanLoudness 37 = .ok (.iinc 3 1, 3) := by decide +kernel
theorem dX12_meanLoudness_40 : decode cX12_meanLoudness 40 = .ok (.goto (-22), 3) := by decide +kernel
theorem dX12_meanLoudness_43 : decode cX12_meanLoudness 43 = .ok (.fload_n 2, 1) := by decide +kernel
theorem dX12_meanLoudness_44 : decode cX12_meanLoudness 44 = .ok (.aload_n 0, 1) := by decide +kernel
theorem dX12_meanLoudness_45 : decode cX12_meanLoudness 45 = .ok (.getfield 9, 3) := by decide +kernel
theorem dX12_meanLoudness_48 : decode cX12_meanLoudness 48 = .ok (.iconst 0, 1) := by decide +kernel
theorem dX12_meanLoudness_49 : decode cX12_meanLoudness 49 = .ok (.iaload, 1) := by decide +kernel
theorem dX12_meanLoudness_50 : decode cX12_meanLoudness 50 = .ok (.i2f, 1) := by decide +kernel
theorem dX12_meanLoudness_51 : decode cX12_meanLoudness 51 = .ok (.fdiv, 1) := by decide +kernel
theorem dX12_meanLoudness_52 : decode cX12_meanLoudness 52 = .ok (.freturn, 1) := by decide +kernel
theorem dX12_deliveryFraction_0 : decode cX12_deliveryFraction 0 = .ok (.aload_n 0, 1) := by decide +kernel
theorem dX12_deliveryFraction_1 : decode cX12_deliveryFraction 1 = .ok (.getfield 9, 3) := by decide +kernel
theorem dX12_deliveryFraction_4 : decode cX12_deliveryFraction 4 = .ok (.bipush 6, 2) := by decide +kernel
theorem dX12_deliveryFraction_6 : decode cX12_deliveryFraction 6 = .ok (.iaload, 1) := by decide +kernel
theorem dX12_deliveryFraction_7 : decode cX12_deliveryFraction 7 = .ok (.aload_n 0, 1) := by decide +kernel
theorem dX12_deliveryFraction_8 : decode cX12_deliveryFraction 8 = .ok (.getfield 9, 3) := by decide +kernel
theorem dX12_deliveryFraction_11 : decode cX12_deliveryFraction 11 = .ok (.bipush 7, 2) := by decide +kernel
theorem dX12_deliveryFraction_13 : decode cX12_deliveryFraction 13 = .ok (.iaload, 1) := by decide +kernel
theorem dX12_deliveryFraction_14 : decode cX12_deliveryFraction 14 = .ok (.iadd, 1) := by decide +kernel
theorem dX12_deliveryFraction_15 : decode cX12_deliveryFraction 15 = .ok (.istore_n 1, 1) := by decide +kernel
theorem dX12_deliveryFraction_16 : decode cX12_deliveryFraction 16 = .ok (.aload_n 0, 1) := by decide +kernel
theorem dX12_deliveryFraction_17 : decode cX12_deliveryFraction 17 = .ok (.iload_n 1, 1) := by decide +kernel
theorem dX12_deliveryFraction_18 : decode cX12_deliveryFraction 18 = .ok (.ifCond .le 7, 3) := by decide +kernel
theorem dX12_deliveryFraction_21 : decode cX12_deliveryFraction 21 = .ok (.iconst 1, 1) := by decide +kernel
theorem dX12_deliveryFraction_22 : decode cX12_deliveryFraction 22 = .ok (.goto 4, 3) := by decide +kernel
theorem dX12_deliveryFraction_25 : decode cX12_deliveryFraction 25 = .ok (.iconst 0, 1) := by decide +kernel
theorem dX12_deliveryFraction_26 : decode cX12_deliveryFraction 26 = .ok (.invokevirtual 106, 3) := by decide +kernel
theorem dX12_deliveryFraction_29 : decode cX12_deliveryFraction 29 = .ok (.ifCond .eq 17, 3) := by decide +kernel
theorem dX12_deliveryFraction_32 : decode cX12_deliveryFraction 32 = .ok (.aload_n 0, 1) := by decide +kernel
theorem dX12_deliveryFraction_33 : decode cX12_deliveryFraction 33 = .ok (.getfield 9, 3) := by decide +kernel
theorem dX12_deliveryFraction_36 : decode cX12_deliveryFraction 36 = .ok (.bipush 6, 2) := by decide +kernel
theorem dX12_deliveryFraction_38 : decode cX12_deliveryFraction 38 = .ok (.iaload, 1) := by decide +kernel
theorem dX12_deliveryFraction_39 : decode cX12_deliveryFraction 39 = .ok (.i2d, 1) := by decide +kernel
theorem dX12_deliveryFraction_40 : decode cX12_deliveryFraction 40 = .ok (.iload_n 1, 1) := by decide +kernel
theorem dX12_deliveryFraction_41 : decode cX12_deliveryFraction 41 = .ok (.i2d, 1) := by decide +kernel
theorem dX12_deliveryFraction_42 : decode cX12_deliveryFraction 42 = .ok (.ddiv, 1) := by decide +kernel
theorem dX12_deliveryFraction_43 : decode cX12_deliveryFraction 43 = .ok (.goto 4, 3) := by decide +kernel
theorem dX12_deliveryFraction_46 : decode cX12_deliveryFraction 46 = .ok (.dconst 0, 1) := by decide +kernel
theorem dX12_deliveryFraction_47 : decode cX12_deliveryFraction 47 = .ok (.dreturn, 1) := by decide +kernel
theorem dX12_isConsistent_0 : decode cX12_isConsistent 0 = .ok (.aload_n 0, 1) := by decide +kernel
theorem dX12_isConsistent_1 : decode cX12_isConsistent 1 = .ok (.iconst 0, 1) := by decide +kernel
theorem dX12_isConsistent_2 : decode cX12_isConsistent 2 = .ok (.putfield 45, 3) := by decide +kernel
theorem dX12_isConsistent_5 : decode cX12_isConsistent 5 = .ok (.iconst 1, 1) := by decide +kernel
theorem dX12_isConsistent_6 : decode cX12_isConsistent 6 = .ok (.ireturn, 1) := by decide +kernel
theorem dX12_says_0 : decode cX12_says 0 = .ok (.aload_n 0, 1) := by decide +kernel
theorem dX12_says_1 : decode cX12_says 1 = .ok (.getfield 28, 3) := by decide +kernel
theorem dX12_says_4 : decode cX12_says 4 = .ok (.aload_n 0, 1) := by decide +kernel
theorem dX12_says_5 : decode cX12_says 5 = .ok (.getfield 182, 3) := by decide +kernel
theorem dX12_says_8 : decode cX12_says 8 = .ok (.iload_n 1, 1) := by decide +kernel
theorem dX12_says_9 : decode cX12_says 9 = .ok (.i2c, 1) := by decide +kernel
theorem dX12_says_10 : decode cX12_says 10 = .ok (.castore, 1) := by decide +kernel
theorem dX12_says_11 : decode cX12_says 11 = .ok (.aload_n 0, 1) := by decide +kernel
theorem dX12_says_12 : decode cX12_says 12 = .ok (.dup, 1) := by decide +kernel
theorem dX12_says_13 : decode cX12_says 13 = .ok (.getfield 182, 3) := by decide +kernel
theorem dX12_says_16 : decode cX12_says 16 = .ok (.iconst 1, 1) := by decide +kernel
theorem dX12_says_17 : decode cX12_says 17 = .ok (.iadd, 1) := by decide +kernel
theorem dX12_says_18 : decode cX12_says 18 = .ok (.putfield 182, 3) := by decide +kernel
theorem dX12_says_21 : decode cX12_says 21 = .ok (.return_, 1) := by decide +kernel
theorem dX12_saysNumber_0 : decode cX12_saysNumber 0 = .ok (.iload_n 1, 1) := by decide +kernel
theorem dX12_saysNumber_1 : decode cX12_saysNumber 1 = .ok (.bipush 9, 2) := by decide +kernel
theorem dX12_saysNumber_3 : decode cX12_saysNumber 3 = .ok (.if_icmp .le 11, 3) := by decide +kernel
theorem dX12_saysNumber_6 : decode cX12_saysNumber 6 = .ok (.aload_n 0, 1) := by decide +kernel
theorem dX12_saysNumber_7 : decode cX12_saysNumber 7 = .ok (.iload_n 1, 1) := by decide +kernel
theorem dX12_saysNumber_8 : decode cX12_saysNumber 8 = .ok (.bipush 10, 2) := by decide +kernel
theorem dX12_saysNumber_10 : decode cX12_saysNumber 10 = .ok (.idiv, 1) := by decide +kernel
theorem dX12_saysNumber_11 : decode cX12_saysNumber 11 = .ok (.invokevirtual 185, 3) := by decide +kernel
theorem dX12_saysNumber_14 : decode cX12_saysNumber 14 = .ok (.aload_n 0, 1) := by decide +kernel
theorem dX12_saysNumber_15 : decode cX12_saysNumber 15 = .ok (.bipush 48, 2) := by decide +kernel
theorem dX12_saysNumber_17 : decode cX12_saysNumber 17 = .ok (.iload_n 1, 1) := by decide +kernel
theorem dX12_saysNumber_18 : decode cX12_saysNumber 18 = .ok (.bipush 10, 2) := by decide +kernel
theorem dX12_saysNumber_20 : decode cX12_saysNumber 20 = .ok (.irem, 1) := by decide +kernel
theorem dX12_saysNumber_21 : decode cX12_saysNumber 21 = .ok (.iadd, 1) := by decide +kernel
theorem dX12_saysNumber_22 : decode cX12_saysNumber 22 = .ok (.invokevirtual 188, 3) := by decide +kernel
theorem dX12_saysNumber_25 : decode cX12_saysNumber 25 = .ok (.return_, 1) := by decide +kernel
theorem dX12_writeMessage_0 : decode cX12_writeMessage 0 = .ok (.aload_n 0, 1) := by decide +kernel
theorem dX12_writeMessage_1 : decode cX12_writeMessage 1 = .ok (.iload_n 1, 1) := by decide +kernel
theorem dX12_writeMessage_2 : decode cX12_writeMessage 2 = .ok (.invokevirtual 146, 3) := by decide +kernel
theorem dX12_writeMessage_5 : decode cX12_writeMessage 5 = .ok (.istore_n 2, 1) := by decide +kernel
theorem dX12_writeMessage_6 : decode cX12_writeMessage 6 = .ok (.aload_n 0, 1) := by decide +kernel
theorem dX12_writeMessage_7 : decode cX12_writeMessage 7 = .ok (.iload_n 2, 1) := by decide +kernel
theorem dX12_writeMessage_8 : decode cX12_writeMessage 8 = .ok (.ifCond .lt 7, 3) := by decide +kernel
theorem dX12_writeMessage_11 : decode cX12_writeMessage 11 = .ok (.iconst 1, 1) := by decide +kernel
theorem dX12_writeMessage_12 : decode cX12_writeMessage 12 = .ok (.goto 4, 3) := by decide +kernel
theorem dX12_writeMessage_15 : decode cX12_writeMessage 15 = .ok (.iconst 0, 1) := by decide +kernel
theorem dX12_writeMessage_16 : decode cX12_writeMessage 16 = .ok (.invokevirtual 106, 3) := by decide +kernel
theorem dX12_writeMessage_19 : decode cX12_writeMessage 19 = .ok (.ifCond .ne 5, 3) := by decide +kernel
theorem dX12_writeMessage_22 : decode cX12_writeMessage 22 = .ok (.iconst 0, 1) := by decide +kernel
theorem dX12_writeMessage_23 : decode cX12_writeMessage 23 = .ok (.ireturn, 1) := by decide +kernel
theorem dX12_writeMessage_24 : decode cX12_writeMessage 24 = .ok (.aload_n 0, 1) := by decide +kernel
theorem dX12_writeMessage_25 : decode cX12_writeMessage 25 = .ok (.iconst 0, 1) := by decide +kernel
theorem dX12_writeMessage_26 : decode cX12_writeMessage 26 = .ok (.putfield 182, 3) := by decide +kernel
theorem dX12_writeMessage_29 : decode cX12_writeMessage 29 = .ok (.aload_n 0, 1) := by decide +kernel
theorem dX12_writeMessage_30 : decode cX12_writeMessage 30 = .ok (.iload_n 1, 1) := by decide +kernel
theorem dX12_writeMessage_31 : decode cX12_writeMessage 31 = .ok (.invokevirtual 185, 3) := by decide +kernel
theorem dX12_writeMessage_34 : decode cX12_writeMessage 34 = .ok (.aload_n 0, 1) := by decide +kernel
theorem dX12_writeMessage_35 : decode cX12_writeMessage 35 = .ok (.bipush 58, 2) := by decide +kernel
theorem dX12_writeMessage_37 : decode cX12_writeMessage 37 = .ok (.invokevirtual 188, 3) := by decide +kernel
theorem dX12_writeMessage_40 : decode cX12_writeMessage 40 = .ok (.aload_n 0, 1) := by decide +kernel
theorem dX12_writeMessage_41 : decode cX12_writeMessage 41 = .ok (.aload_n 0, 1) := by decide +kernel
theorem dX12_writeMessage_42 : decode cX12_writeMessage 42 = .ok (.iload_n 2, 1) := by decide +kernel
theorem dX12_writeMessage_43 : decode cX12_writeMessage 43 = .ok (.iconst 1, 1) := by decide +kernel
theorem dX12_writeMessage_44 : decode cX12_writeMessage 44 = .ok (.invokevirtual 61, 3) := by decide +kernel
theorem dX12_writeMessage_47 : decode cX12_writeMessage 47 = .ok (.invokevirtual 185, 3) := by decide +kernel
theorem dX12_writeMessage_50 : decode cX12_writeMessage 50 = .ok (.aload_n 0, 1) := by decide +kernel
theorem dX12_writeMessage_51 : decode cX12_writeMessage 51 = .ok (.bipush 62, 2) := by decide +kernel
theorem dX12_writeMessage_53 : decode cX12_writeMessage 53 = .ok (.invokevirtual 188, 3) := by decide +kernel
theorem dX12_writeMessage_56 : decode cX12_writeMessage 56 = .ok (.aload_n 0, 1) := by decide +kernel
theorem dX12_writeMessage_57 : decode cX12_writeMessage 57 = .ok (.aload_n 0, 1) := by decide +kernel
theorem dX12_writeMessage_58 : decode cX12_writeMessage 58 = .ok (.iload_n 2, 1) := by decide +kernel
theorem dX12_writeMessage_59 : decode cX12_writeMessage 59 = .ok (.iconst 2, 1) := by decide +kernel
theorem dX12_writeMessage_60 : decode cX12_writeMessage 60 = .ok (.invokevirtual 61, 3) := by decide +kernel
theorem dX12_writeMessage_63 : decode cX12_writeMessage 63 = .ok (.invokevirtual 185, 3) := by decide +kernel
theorem dX12_writeMessage_66 : decode cX12_writeMessage 66 = .ok (.aload_n 0, 1) := by decide +kernel
theorem dX12_writeMessage_67 : decode cX12_writeMessage 67 = .ok (.bipush 61, 2) := by decide +kernel
theorem dX12_writeMessage_69 : decode cX12_writeMessage 69 = .ok (.invokevirtual 188, 3) := by decide +kernel
theorem dX12_writeMessage_72 : decode cX12_writeMessage 72 = .ok (.aload_n 0, 1) := by decide +kernel
theorem dX12_writeMessage_73 : decode cX12_writeMessage 73 = .ok (.aload_n 0, 1) := by decide +kernel
theorem dX12_writeMessage_74 : decode cX12_writeMessage 74 = .ok (.iload_n 2, 1) := by decide +kernel
theorem dX12_writeMessage_75 : decode cX12_writeMessage 75 = .ok (.iconst 3, 1) := by decide +kernel
theorem dX12_writeMessage_76 : decode cX12_writeMessage 76 = .ok (.invokevirtual 61, 3) := by decide +kernel
theorem dX12_writeMessage_79 : decode cX12_writeMessage 79 = .ok (.invokevirtual 185, 3) := by decide +kernel
theorem dX12_writeMessage_82 : decode cX12_writeMessage 82 = .ok (.aload_n 0, 1) := by decide +kernel
theorem dX12_writeMessage_83 : decode cX12_writeMessage 83 = .ok (.aload_n 0, 1) := by decide +kernel
theorem dX12_writeMessage_84 : decode cX12_writeMessage 84 = .ok (.iload_n 2, 1) := by decide +kernel
theorem dX12_writeMessage_85 : decode cX12_writeMessage 85 = .ok (.iconst 4, 1) := by decide +kernel
theorem dX12_writeMessage_86 : decode cX12_writeMessage 86 = .ok (.invokevirtual 61, 3) := by decide +kernel
theorem dX12_writeMessage_89 : decode cX12_writeMessage 89 = .ok (.invokevirtual 188, 3) := by decide +kernel
theorem dX12_writeMessage_92 : decode cX12_writeMessage 92 = .ok (.iconst 0, 1) := by decide +kernel
theorem dX12_writeMessage_93 : decode cX12_writeMessage 93 = .ok (.istore_n 3, 1) := by decide +kernel
theorem dX12_writeMessage_94 : decode cX12_writeMessage 94 = .ok (.iload_n 3, 1) := by decide +kernel
theorem dX12_writeMessage_95 : decode cX12_writeMessage 95 = .ok (.aload_n 0, 1) := by decide +kernel
theorem dX12_writeMessage_96 : decode cX12_writeMessage 96 = .ok (.iload_n 2, 1) := by decide +kernel
theorem dX12_writeMessage_97 : decode cX12_writeMessage 97 = .ok (.iconst 5, 1) := by decide +kernel
theorem dX12_writeMessage_98 : decode cX12_writeMessage 98 = .ok (.invokevirtual 61, 3) := by decide +kernel
theorem dX12_writeMessage_101 : decode cX12_writeMessage 101 = .ok (.if_icmp .ge 15, 3) := by decide +kernel
theorem dX12_writeMessage_104 : decode cX12_writeMessage 104 = .ok (.aload_n 0, 1) := by decide +kernel
theorem dX12_writeMessage_105 : decode cX12_writeMessage 105 = .ok (.bipush 33, 2) := by decide +kernel
theorem dX12_writeMessage_107 : decode cX12_writeMessage 107 = .ok (.invokevirtual 188, 3) := by decide +kernel
theorem dX12_writeMessage_110 : decode cX12_writeMessage 110 = .ok (.iinc 3 1, 3) := by decide +kernel
theorem dX12_writeMessage_113 : decode cX12_writeMessage 113 = .ok (.goto (-19), 3) := by decide +kernel
theorem dX12_writeMessage_116 : decode cX12_writeMessage 116 = .ok (.aload_n 0, 1) := by decide +kernel
theorem dX12_writeMessage_117 : decode cX12_writeMessage 117 = .ok (.getfield 182, 3) := by decide +kernel
theorem dX12_writeMessage_120 : decode cX12_writeMessage 120 = .ok (.ireturn, 1) := by decide +kernel
theorem dX12_writeCode_0 : decode cX12_writeCode 0 = .ok (.aload_n 0, 1) := by decide +kernel
theorem dX12_writeCode_1 : decode cX12_writeCode 1 = .ok (.iload_n 1, 1) := by decide +kernel
theorem dX12_writeCode_2 : decode cX12_writeCode 2 = .ok (.iconst 0, 1) := by decide +kernel
theorem dX12_writeCode_3 : decode cX12_writeCode 3 = .ok (.bipush 15, 2) := by decide +kernel
theorem dX12_writeCode_5 : decode cX12_writeCode 5 = .ok (.invokestatic 57, 3) := by decide +kernel
theorem dX12_writeCode_8 : decode cX12_writeCode 8 = .ok (.invokevirtual 106, 3) := by decide +kernel
theorem dX12_writeCode_11 : decode cX12_writeCode 11 = .ok (.ifCond .ne 5, 3) := by decide +kernel
theorem dX12_writeCode_14 : decode cX12_writeCode 14 = .ok (.iconst 0, 1) := by decide +kernel
theorem dX12_writeCode_15 : decode cX12_writeCode 15 = .ok (.ireturn, 1) := by decide +kernel
theorem dX12_writeCode_16 : decode cX12_writeCode 16 = .ok (.aload_n 0, 1) := by decide +kernel
theorem dX12_writeCode_17 : decode cX12_writeCode 17 = .ok (.iconst 0, 1) := by decide +kernel
theorem dX12_writeCode_18 : decode cX12_writeCode 18 = .ok (.putfield 182, 3) := by decide +kernel
theorem dX12_writeCode_21 : decode cX12_writeCode 21 = .ok (.iconst 0, 1) := by decide +kernel
theorem dX12_writeCode_22 : decode cX12_writeCode 22 = .ok (.istore_n 2, 1) := by decide +kernel
theorem dX12_writeCode_23 : decode cX12_writeCode 23 = .ok (.iload_n 2, 1) := by decide +kernel
theorem dX12_writeCode_24 : decode cX12_writeCode 24 = .ok (.iconst 5, 1) := by decide +kernel
theorem dX12_writeCode_25 : decode cX12_writeCode 25 = .ok (.if_icmp .ge 29, 3) := by decide +kernel
theorem dX12_writeCode_28 : decode cX12_writeCode 28 = .ok (.aload_n 0, 1) := by decide +kernel
theorem dX12_writeCode_29 : decode cX12_writeCode 29 = .ok (.iload_n 1, 1) := by decide +kernel
theorem dX12_writeCode_30 : decode cX12_writeCode 30 = .ok (.iload_n 2, 1) := by decide +kernel
theorem dX12_writeCode_31 : decode cX12_writeCode 31 = .ok (.invokestatic 155, 3) := by decide +kernel
theorem dX12_writeCode_34 : decode cX12_writeCode 34 = .ok (.iconst 1, 1) := by decide +kernel
theorem dX12_writeCode_35 : decode cX12_writeCode 35 = .ok (.if_icmp .ne 8, 3) := by decide +kernel
theorem dX12_writeCode_38 : decode cX12_writeCode 38 = .ok (.bipush 120, 2) := by decide +kernel
theorem dX12_writeCode_40 : decode cX12_writeCode 40 = .ok (.goto 5, 3) := by decide +kernel
theorem dX12_writeCode_43 : decode cX12_writeCode 43 = .ok (.bipush 46, 2) := by decide +kernel
theorem dX12_writeCode_45 : decode cX12_writeCode 45 = .ok (.invokevirtual 188, 3) := by decide +kernel
theorem dX12_writeCode_48 : decode cX12_writeCode 48 = .ok (.iinc 2 1, 3) := by decide +kernel
theorem dX12_writeCode_51 : decode cX12_writeCode 51 = .ok (.goto (-28), 3) := by decide +kernel
theorem dX12_writeCode_54 : decode cX12_writeCode 54 = .ok (.aload_n 0, 1) := by decide +kernel
theorem dX12_writeCode_55 : decode cX12_writeCode 55 = .ok (.getfield 182, 3) := by decide +kernel
theorem dX12_writeCode_58 : decode cX12_writeCode 58 = .ok (.ireturn, 1) := by decide +kernel
theorem dX12_outputCharacter_0 : decode cX12_outputCharacter 0 = .ok (.aload_n 0, 1) := by decide +kernel
theorem dX12_outputCharacter_1 : decode cX12_outputCharacter 1 = .ok (.iload_n 1, 1) := by decide +kernel
theorem dX12_outputCharacter_2 : decode cX12_outputCharacter 2 = .ok (.iconst 0, 1) := by decide +kernel
theorem dX12_outputCharacter_3 : decode cX12_outputCharacter 3 = .ok (.aload_n 0, 1) := by decide +kernel
theorem dX12_outputCharacter_4 : decode cX12_outputCharacter 4 = .ok (.getfield 182, 3) := by decide +kernel
theorem dX12_outputCharacter_7 : decode cX12_outputCharacter 7 = .ok (.iconst 1, 1) := by decide +kernel
theorem dX12_outputCharacter_8 : decode cX12_outputCharacter 8 = .ok (.isub, 1) := by decide +kernel
theorem dX12_outputCharacter_9 : decode cX12_outputCharacter 9 = .ok (.invokestatic 57, 3) := by decide +kernel
theorem dX12_outputCharacter_12 : decode cX12_outputCharacter 12 = .ok (.invokevirtual 106, 3) := by decide +kernel
theorem dX12_outputCharacter_15 : decode cX12_outputCharacter 15 = .ok (.ifCond .eq 12, 3) := by decide +kernel
theorem dX12_outputCharacter_18 : decode cX12_outputCharacter 18 = .ok (.aload_n 0, 1) := by decide +kernel
theorem dX12_outputCharacter_19 : decode cX12_outputCharacter 19 = .ok (.getfield 28, 3) := by decide +kernel
theorem dX12_outputCharacter_22 : decode cX12_outputCharacter 22 = .ok (.iload_n 1, 1) := by decide +kernel
theorem dX12_outputCharacter_23 : decode cX12_outputCharacter 23 = .ok (.caload, 1) := by decide +kernel
theorem dX12_outputCharacter_24 : decode cX12_outputCharacter 24 = .ok (.goto 5, 3) := by decide +kernel
theorem dX12_outputCharacter_27 : decode cX12_outputCharacter 27 = .ok (.bipush 32, 2) := by decide +kernel
theorem dX12_outputCharacter_29 : decode cX12_outputCharacter 29 = .ok (.ireturn, 1) := by decide +kernel
theorem dX12_feed_0 : decode cX12_feed 0 = .ok (.aload_n 0, 1) := by decide +kernel
theorem dX12_feed_1 : decode cX12_feed 1 = .ok (.aload_n 0, 1) := by decide +kernel
theorem dX12_feed_2 : decode cX12_feed 2 = .ok (.getfield 191, 3) := by decide +kernel
theorem dX12_feed_5 : decode cX12_feed 5 = .ok (.bipush 60, 2) := by decide +kernel
theorem dX12_feed_7 : decode cX12_feed 7 = .ok (.if_icmp .ne 7, 3) := by decide +kernel
theorem dX12_feed_10 : decode cX12_feed 10 = .ok (.iconst 1, 1) := by decide +kernel
theorem dX12_feed_11 : decode cX12_feed 11 = .ok (.goto 4, 3) := by decide +kernel
theorem dX12_feed_14 : decode cX12_feed 14 = .ok (.iconst 0, 1) := by decide +kernel
theorem dX12_feed_15 : decode cX12_feed 15 = .ok (.putfield 45, 3) := by decide +kernel
theorem dX12_feed_18 : decode cX12_feed 18 = .ok (.aload_n 0, 1) := by decide +kernel
theorem dX12_feed_19 : decode cX12_feed 19 = .ok (.getfield 45, 3) := by decide +kernel
theorem dX12_feed_22 : decode cX12_feed 22 = .ok (.ifCond .le 5, 3) := by decide +kernel
theorem dX12_feed_25 : decode cX12_feed 25 = .ok (.iconst 0, 1) := by decide +kernel
theorem dX12_feed_26 : decode cX12_feed 26 = .ok (.ireturn, 1) := by decide +kernel
theorem dX12_feed_27 : decode cX12_feed 27 = .ok (.aload_n 0, 1) := by decide +kernel
theorem dX12_feed_28 : decode cX12_feed 28 = .ok (.getfield 32, 3) := by decide +kernel
theorem dX12_feed_31 : decode cX12_feed 31 = .ok (.aload_n 0, 1) := by decide +kernel
theorem dX12_feed_32 : decode cX12_feed 32 = .ok (.getfield 191, 3) := by decide +kernel
theorem dX12_feed_35 : decode cX12_feed 35 = .ok (.iload_n 1, 1) := by decide +kernel
theorem dX12_feed_36 : decode cX12_feed 36 = .ok (.castore, 1) := by decide +kernel
theorem dX12_feed_37 : decode cX12_feed 37 = .ok (.aload_n 0, 1) := by decide +kernel
theorem dX12_feed_38 : decode cX12_feed 38 = .ok (.dup, 1) := by decide +kernel
theorem dX12_feed_39 : decode cX12_feed 39 = .ok (.getfield 191, 3) := by decide +kernel
theorem dX12_feed_42 : decode cX12_feed 42 = .ok (.iconst 1, 1) := by decide +kernel
theorem dX12_feed_43 : decode cX12_feed 43 = .ok (.iadd, 1) := by decide +kernel
theorem dX12_feed_44 : decode cX12_feed 44 = .ok (.putfield 191, 3) := by decide +kernel
theorem dX12_feed_47 : decode cX12_feed 47 = .ok (.aload_n 0, 1) := by decide +kernel
theorem dX12_feed_48 : decode cX12_feed 48 = .ok (.getfield 191, 3) := by decide +kernel
theorem dX12_feed_51 : decode cX12_feed 51 = .ok (.ireturn, 1) := by decide +kernel
theorem dX12_behind_0 : decode cX12_behind 0 = .ok (.aload_n 0, 1) := by decide +kernel
theorem dX12_behind_1 : decode cX12_behind 1 = .ok (.getfield 194, 3) := by decide +kernel
theorem dX12_behind_4 : decode cX12_behind 4 = .ok (.iload_n 1, 1) := by decide +kernel
theorem dX12_behind_5 : decode cX12_behind 5 = .ok (.iadd, 1) := by decide +kernel
theorem dX12_behind_6 : decode cX12_behind 6 = .ok (.aload_n 0, 1) := by decide +kernel
theorem dX12_behind_7 : decode cX12_behind 7 = .ok (.getfield 191, 3) := by decide +kernel
theorem dX12_behind_10 : decode cX12_behind 10 = .ok (.if_icmp .ge 17, 3) := by decide +kernel
theorem dX12_behind_13 : decode cX12_behind 13 = .ok (.aload_n 0, 1) := by decide +kernel
theorem dX12_behind_14 : decode cX12_behind 14 = .ok (.getfield 32, 3) := by decide +kernel
theorem dX12_behind_17 : decode cX12_behind 17 = .ok (.aload_n 0, 1) := by decide +kernel
theorem dX12_behind_18 : decode cX12_behind 18 = .ok (.getfield 194, 3) := by decide +kernel
theorem dX12_behind_21 : decode cX12_behind 21 = .ok (.iload_n 1, 1) := by decide +kernel
theorem dX12_behind_22 : decode cX12_behind 22 = .ok (.iadd, 1) := by decide +kernel
theorem dX12_behind_23 : decode cX12_behind 23 = .ok (.caload, 1) := by decide +kernel
theorem dX12_behind_24 : decode cX12_behind 24 = .ok (.goto 4, 3) := by decide +kernel
theorem dX12_behind_27 : decode cX12_behind 27 = .ok (.iconst (-1), 1) := by decide +kernel
theorem dX12_behind_28 : decode cX12_behind 28 = .ok (.ireturn, 1) := by decide +kernel
theorem dX12_skip_0 : decode cX12_skip 0 = .ok (.iconst 0, 1) := by decide +kernel
theorem dX12_skip_1 : decode cX12_skip 1 = .ok (.istore_n 2, 1) := by decide +kernel
theorem dX12_skip_2 : decode cX12_skip 2 = .ok (.iload_n 2, 1) := by decide +kernel
theorem dX12_skip_3 : decode cX12_skip 3 = .ok (.aload_n 1, 1) := by decide +kernel
theorem dX12_skip_4 : decode cX12_skip 4 = .ok (.invokevirtual 197, 3) := by decide +kernel
theorem dX12_skip_7 : decode cX12_skip 7 = .ok (.if_icmp .ge 59, 3) := by decide +kernel
theorem dX12_skip_10 : decode cX12_skip 10 = .ok (.aload_n 0, 1) := by decide +kernel
theorem dX12_skip_11 : decode cX12_skip 11 = .ok (.getfield 201, 3) := by decide +kernel
theorem dX12_skip_14 : decode cX12_skip 14 = .ok (.ifCond .ne 52, 3) := by decide +kernel
theorem dX12_skip_17 : decode cX12_skip 17 = .ok (.aload_n 0, 1) := by decide +kernel
theorem dX12_skip_18 : decode cX12_skip 18 = .ok (.aload_n 0, 1) := by decide +kernel
theorem dX12_skip_19 : decode cX12_skip 19 = .ok (.iconst 0, 1) := by decide +kernel
theorem dX12_skip_20 : decode cX12_skip 20 = .ok (.invokevirtual 205, 3) := by decide +kernel
theorem dX12_skip_23 : decode cX12_skip 23 = .ok (.aload_n 1, 1) := by decide +kernel
theorem dX12_skip_24 : decode cX12_skip 24 = .ok (.iload_n 2, 1) := by decide +kernel
theorem dX12_skip_25 : decode cX12_skip 25 = .ok (.invokevirtual 208, 3) := by decide +kernel
theorem dX12_skip_28 : decode cX12_skip 28 = .ok (.if_icmp .eq 7, 3) := by decide +kernel
theorem dX12_skip_31 : decode cX12_skip 31 = .ok (.iconst 1, 1) := by decide +kernel
theorem dX12_skip_32 : decode cX12_skip 32 = .ok (.goto 4, 3) := by decide +kernel
theorem dX12_skip_35 : decode cX12_skip 35 = .ok (.iconst 0, 1) := by decide +kernel
theorem dX12_skip_36 : decode cX12_skip 36 = .ok (.putfield 201, 3) := by decide +kernel
theorem dX12_skip_39 : decode cX12_skip 39 = .ok (.aload_n 0, 1) := by decide +kernel
theorem dX12_skip_40 : decode cX12_skip 40 = .ok (.dup, 1) := by decide +kernel
theorem dX12_skip_41 : decode cX12_skip 41 = .ok (.getfield 194, 3) := by decide +kernel
theorem dX12_skip_44 : decode cX12_skip 44 = .ok (.aload_n 0, 1) := by decide +kernel
theorem dX12_skip_45 : decode cX12_skip 45 = .ok (.getfield 201, 3) := by decide +kernel
theorem dX12_skip_48 : decode cX12_skip 48 = .ok (.ifCond .eq 7, 3) := by decide +kernel
theorem dX12_skip_51 : decode cX12_skip 51 = .ok (.iconst 0, 1) := by decide +kernel
theorem dX12_skip_52 : decode cX12_skip 52 = .ok (.goto 4, 3) := by decide +kernel
theorem dX12_skip_55 : decode cX12_skip 55 = .ok (.iconst 1, 1) := by decide +kernel
theorem dX12_skip_56 : decode cX12_skip 56 = .ok (.iadd, 1) := by decide +kernel
theorem dX12_skip_57 : decode cX12_skip 57 = .ok (.putfield 194, 3) := by decide +kernel
theorem dX12_skip_60 : decode cX12_skip 60 = .ok (.iinc 2 1, 3) := by decide +kernel
theorem dX12_skip_63 : decode cX12_skip 63 = .ok (.goto (-61), 3) := by decide +kernel
theorem dX12_skip_66 : decode cX12_skip 66 = .ok (.return_, 1) := by decide +kernel
theorem dX12_isDigit_0 : decode cX12_isDigit 0 = .ok (.aload_n 0, 1) := by decide +kernel
theorem dX12_isDigit_1 : decode cX12_isDigit 1 = .ok (.getfield 201, 3) := by decide +kernel
theorem dX12_isDigit_4 : decode cX12_isDigit 4 = .ok (.ifCond .ne 22, 3) := by decide +kernel
theorem dX12_isDigit_7 : decode cX12_isDigit 7 = .ok (.aload_n 0, 1) := by decide +kernel
theorem dX12_isDigit_8 : decode cX12_isDigit 8 = .ok (.iconst 0, 1) := by decide +kernel
theorem dX12_isDigit_9 : decode cX12_isDigit 9 = .ok (.invokevirtual 205, 3) := by decide +kernel
theorem dX12_isDigit_12 : decode cX12_isDigit 12 = .ok (.bipush 48, 2) := by decide +kernel
theorem dX12_isDigit_14 : decode cX12_isDigit 14 = .ok (.bipush 57, 2) := by decide +kernel
theorem dX12_isDigit_16 : decode cX12_isDigit 16 = .ok (.invokestatic 57, 3) := by decide +kernel
theorem dX12_isDigit_19 : decode cX12_isDigit 19 = .ok (.ifCond .eq 7, 3) := by decide +kernel
theorem dX12_isDigit_22 : decode cX12_isDigit 22 = .ok (.iconst 1, 1) := by decide +kernel
theorem dX12_isDigit_23 : decode cX12_isDigit 23 = .ok (.goto 4, 3) := by decide +kernel
theorem dX12_isDigit_26 : decode cX12_isDigit 26 = .ok (.iconst 0, 1) := by decide +kernel
theorem dX12_isDigit_27 : decode cX12_isDigit 27 = .ok (.ireturn, 1) := by decide +kernel
theorem dX12_readNumber_0 : decode cX12_readNumber 0 = .ok (.aload_n 0, 1) := by decide +kernel
theorem dX12_readNumber_1 : decode cX12_readNumber 1 = .ok (.aload_n 0, 1) := by decide +kernel
theorem dX12_readNumber_2 : decode cX12_readNumber 2 = .ok (.getfield 201, 3) := by decide +kernel
theorem dX12_readNumber_5 : decode cX12_readNumber 5 = .ok (.ifCond .ne 10, 3) := by decide +kernel
theorem dX12_readNumber_8 : decode cX12_readNumber 8 = .ok (.aload_n 0, 1) := by decide +kernel
theorem dX12_readNumber_9 : decode cX12_readNumber 9 = .ok (.invokevirtual 212, 3) := by decide +kernel
theorem dX12_readNumber_12 : decode cX12_readNumber 12 = .ok (.ifCond .ne 7, 3) := by decide +kernel
theorem dX12_readNumber_15 : decode cX12_readNumber 15 = .ok (.iconst 1, 1) := by decide +kernel
theorem dX12_readNumber_16 : decode cX12_readNumber 16 = .ok (.goto 4, 3) := by decide +kernel
theorem dX12_readNumber_19 : decode cX12_readNumber 19 = .ok (.iconst 0, 1) := by decide +kernel
theorem dX12_readNumber_20 : decode cX12_readNumber 20 = .ok (.putfield 201, 3) := by decide +kernel
theorem dX12_readNumber_23 : decode cX12_readNumber 23 = .ok (.iconst 0, 1) := by decide +kernel
theorem dX12_readNumber_24 : decode cX12_readNumber 24 = .ok (.istore_n 2, 1) := by decide +kernel
theorem dX12_readNumber_25 : decode cX12_readNumber 25 = .ok (.iconst 0, 1) := by decide +kernel
theorem dX12_readNumber_26 : decode cX12_readNumber 26 = .ok (.istore_n 3, 1) := by decide +kernel
theorem dX12_readNumber_27 : decode cX12_readNumber 27 = .ok (.iload_n 3, 1) := by decide +kernel
theorem dX12_readNumber_28 : decode cX12_readNumber 28 = .ok (.iload_n 1, 1) := by decide +kernel
theorem dX12_readNumber_29 : decode cX12_readNumber 29 = .ok (.if_icmp .ge 44, 3) := by decide +kernel
theorem dX12_readNumber_32 : decode cX12_readNumber 32 = .ok (.aload_n 0, 1) := by decide +kernel
theorem dX12_readNumber_33 : decode cX12_readNumber 33 = .ok (.invokevirtual 212, 3) := by decide +kernel
theorem dX12_readNumber_36 : decode cX12_readNumber 36 = .ok (.ifCond .eq 37, 3) := by decide +kernel
theorem dX12_readNumber_39 : decode cX12_readNumber 39 = .ok (.bipush 10, 2) := by decide +kernel
theorem dX12_readNumber_41 : decode cX12_readNumber 41 = .ok (.iload_n 2, 1) := by decide +kernel
theorem dX12_readNumber_42 : decode cX12_readNumber 42 = .ok (.imul, 1) := by decide +kernel
theorem dX12_readNumber_43 : decode cX12_readNumber 43 = .ok (.aload_n 0, 1) := by decide +kernel
theorem dX12_readNumber_44 : decode cX12_readNumber 44 = .ok (.getfield 32, 3) := by decide +kernel
theorem dX12_readNumber_47 : decode cX12_readNumber 47 = .ok (.aload_n 0, 1) := by decide +kernel
theorem dX12_readNumber_48 : decode cX12_readNumber 48 = .ok (.getfield 194, 3) := by decide +kernel
theorem dX12_readNumber_51 : decode cX12_readNumber 51 = .ok (.caload, 1) := by decide +kernel
theorem dX12_readNumber_52 : decode cX12_readNumber 52 = .ok (.iadd, 1) := by decide +kernel
theorem dX12_readNumber_53 : decode cX12_readNumber 53 = .ok (.bipush 48, 2) := by decide +kernel
theorem dX12_readNumber_55 : decode cX12_readNumber 55 = .ok (.isub, 1) := by decide +kernel
theorem dX12_readNumber_56 : decode cX12_readNumber 56 = .ok (.istore_n 2, 1) := by decide +kernel
theorem dX12_readNumber_57 : decode cX12_readNumber 57 = .ok (.aload_n 0, 1) := by decide +kernel
theorem dX12_readNumber_58 : decode cX12_readNumber 58 = .ok (.dup, 1) := by decide +kernel
theorem dX12_readNumber_59 : decode cX12_readNumber 59 = .ok (.getfield 194, 3) := by decide +kernel
theorem dX12_readNumber_62 : decode cX12_readNumber 62 = .ok (.iconst 1, 1) := by decide +kernel
theorem dX12_readNumber_63 : decode cX12_readNumber 63 = .ok (.iadd, 1) := by decide +kernel
theorem dX12_readNumber_64 : decode cX12_readNumber 64 = .ok (.putfield 194, 3) := by decide +kernel
theorem dX12_readNumber_67 : decode cX12_readNumber 67 = .ok (.iinc 3 1, 3) := by decide +kernel
theorem dX12_readNumber_70 : decode cX12_readNumber 70 = .ok (.goto (-43), 3) := by decide +kernel
theorem dX12_readNumber_73 : decode cX12_readNumber 73 = .ok (.iload_n 2, 1) := by decide +kernel
theorem dX12_readNumber_74 : decode cX12_readNumber 74 = .ok (.ireturn, 1) := by decide +kernel
theorem dX12_readDigit_0 : decode cX12_readDigit 0 = .ok (.aload_n 0, 1) := by decide +kernel
theorem dX12_readDigit_1 : decode cX12_readDigit 1 = .ok (.aload_n 1, 1) := by decide +kernel
theorem dX12_readDigit_2 : decode cX12_readDigit 2 = .ok (.invokevirtual 216, 3) := by decide +kernel
theorem dX12_readDigit_5 : decode cX12_readDigit 5 = .ok (.aload_n 0, 1) := by decide +kernel
theorem dX12_readDigit_6 : decode cX12_readDigit 6 = .ok (.iconst 1, 1) := by decide +kernel
theorem dX12_readDigit_7 : decode cX12_readDigit 7 = .ok (.invokevirtual 220, 3) := by decide +kernel
theorem dX12_readDigit_10 : decode cX12_readDigit 10 = .ok (.ireturn, 1) := by decide +kernel
theorem dX12_readCommand_0 : decode cX12_readCommand 0 = .ok (.aload_n 0, 1) := by decide +kernel
theorem dX12_readCommand_1 : decode cX12_readCommand 1 = .ok (.getfield 201, 3) := by decide +kernel
theorem dX12_readCommand_4 : decode cX12_readCommand 4 = .ok (.ifCond .eq 4, 3) := by decide +kernel
theorem dX12_readCommand_7 : decode cX12_readCommand 7 = .ok (.return_, 1) := by decide +kernel
theorem dX12_readCommand_8 : decode cX12_readCommand 8 = .ok (.aload_n 0, 1) := by decide +kernel
theorem dX12_readCommand_9 : decode cX12_readCommand 9 = .ok (.iconst 0, 1) := by decide +kernel
theorem dX12_readCommand_10 : decode cX12_readCommand 10 = .ok (.invokevirtual 205, 3) := by decide +kernel
theorem dX12_readCommand_13 : decode cX12_readCommand 13 = .ok (.istore_n 1, 1) := by decide +kernel
theorem dX12_readCommand_14 : decode cX12_readCommand 14 = .ok (.aload_n 0, 1) := by decide +kernel
theorem dX12_readCommand_15 : decode cX12_readCommand 15 = .ok (.iconst 1, 1) := by decide +kernel
theorem dX12_readCommand_16 : decode cX12_readCommand 16 = .ok (.invokevirtual 205, 3) := by decide +kernel
theorem dX12_readCommand_19 : decode cX12_readCommand 19 = .ok (.istore_n 2, 1) := by decide +kernel
theorem dX12_readCommand_20 : decode cX12_readCommand 20 = .ok (.iconst 4, 1) := by decide +kernel
theorem dX12_readCommand_21 : decode cX12_readCommand 21 = .ok (.aload_n 0, 1) := by decide +kernel
theorem dX12_readCommand_22 : decode cX12_readCommand 22 = .ok (.getfield 223, 3) := by decide +kernel
theorem dX12_readCommand_25 : decode cX12_readCommand 25 = .ok (.imul, 1) := by decide +kernel
theorem dX12_readCommand_26 : decode cX12_readCommand 26 = .ok (.istore_n 3, 1) := by decide +kernel
theorem dX12_readCommand_27 : decode cX12_readCommand 27 = .ok (.aload_n 0, 1) := by decide +kernel
theorem dX12_readCommand_28 : decode cX12_readCommand 28 = .ok (.dup, 1) := by decide +kernel
theorem dX12_readCommand_29 : decode cX12_readCommand 29 = .ok (.getfield 223, 3) := by decide +kernel
theorem dX12_readCommand_32 : decode cX12_readCommand 32 = .ok (.iconst 1, 1) := by decide +kernel
theorem dX12_readCommand_33 : decode cX12_readCommand 33 = .ok (.iadd, 1) := by decide +kernel
theorem dX12_readCommand_34 : decode cX12_readCommand 34 = .ok (.putfield 223, 3) := by decide +kernel
theorem dX12_readCommand_37 : decode cX12_readCommand 37 = .ok (.iload_n 1, 1) := by decide +kernel
theorem dX12_readCommand_38 : decode cX12_readCommand 38 = .ok (.bipush 116, 2) := by decide +kernel
theorem dX12_readCommand_40 : decode cX12_readCommand 40 = .ok (.if_icmp .ne 62, 3) := by decide +kernel
theorem dX12_readCommand_43 : decode cX12_readCommand 43 = .ok (.iload_n 2, 1) := by decide +kernel
theorem dX12_readCommand_44 : decode cX12_readCommand 44 = .ok (.bipush 117, 2) := by decide +kernel
theorem dX12_readCommand_46 : decode cX12_readCommand 46 = .ok (.if_icmp .ne 56, 3) := by decide +kernel
theorem dX12_readCommand_49 : decode cX12_readCommand 49 = .ok (.aload_n 0, 1) := by decide +kernel
theorem dX12_readCommand_50 : decode cX12_readCommand 50 = .ok (.getfield 42, 3) := by decide +kernel
theorem dX12_readCommand_53 : decode cX12_readCommand 53 = .ok (.iload_n 3, 1) := by decide +kernel
theorem dX12_readCommand_54 : decode cX12_readCommand 54 = .ok (.bipush 117, 2) := by decide +kernel
theorem dX12_readCommand_56 : decode cX12_readCommand 56 = .ok (.iastore, 1) := by decide +kernel
theorem dX12_readCommand_57 : decode cX12_readCommand 57 = .ok (.aload_n 0, 1) := by decide +kernel
theorem dX12_readCommand_58 : decode cX12_readCommand 58 = .ok (.getfield 42, 3) := by decide +kernel
theorem dX12_readCommand_61 : decode cX12_readCommand 61 = .ok (.iload_n 3, 1) := by decide +kernel
theorem dX12_readCommand_62 : decode cX12_readCommand 62 = .ok (.iconst 1, 1) := by decide +kernel
theorem dX12_readCommand_63 : decode cX12_readCommand 63 = .ok (.iadd, 1) := by decide +kernel
theorem dX12_readCommand_64 : decode cX12_readCommand 64 = .ok (.aload_n 0, 1) := by decide +kernel
theorem dX12_readCommand_65 : decode cX12_readCommand 65 = .ok (.ldc 226, 2) := by decide +kernel
theorem dX12_readCommand_67 : decode cX12_readCommand 67 = .ok (.invokevirtual 228, 3) := by decide +kernel
theorem dX12_readCommand_70 : decode cX12_readCommand 70 = .ok (.iastore, 1) := by decide +kernel
theorem dX12_readCommand_71 : decode cX12_readCommand 71 = .ok (.aload_n 0, 1) := by decide +kernel
theorem dX12_readCommand_72 : decode cX12_readCommand 72 = .ok (.getfield 42, 3) := by decide +kernel
theorem dX12_readCommand_75 : decode cX12_readCommand 75 = .ok (.iload_n 3, 1) := by decide +kernel
theorem dX12_readCommand_76 : decode cX12_readCommand 76 = .ok (.iconst 2, 1) := by decide +kernel
theorem dX12_readCommand_77 : decode cX12_readCommand 77 = .ok (.iadd, 1) := by decide +kernel
theorem dX12_readCommand_78 : decode cX12_readCommand 78 = .ok (.aload_n 0, 1) := by decide +kernel
theorem dX12_readCommand_79 : decode cX12_readCommand 79 = .ok (.ldc 232, 2) := by decide +kernel
theorem dX12_readCommand_81 : decode cX12_readCommand 81 = .ok (.invokevirtual 228, 3) := by decide +kernel
theorem dX12_readCommand_84 : decode cX12_readCommand 84 = .ok (.iastore, 1) := by decide +kernel
theorem dX12_readCommand_85 : decode cX12_readCommand 85 = .ok (.aload_n 0, 1) := by decide +kernel
theorem dX12_readCommand_86 : decode cX12_readCommand 86 = .ok (.getfield 42, 3) := by decide +kernel
theorem dX12_readCommand_89 : decode cX12_readCommand 89 = .ok (.iload_n 3, 1) := by decide +kernel
theorem dX12_readCommand_90 : decode cX12_readCommand 90 = .ok (.iconst 3, 1) := by decide +kernel
theorem dX12_readCommand_91 : decode cX12_readCommand 91 = .ok (.iadd, 1) := by decide +kernel
theorem dX12_readCommand_92 : decode cX12_readCommand 92 = .ok (.aload_n 0, 1) := by decide +kernel
theorem dX12_readCommand_93 : decode cX12_readCommand 93 = .ok (.ldc 234, 2) := by decide +kernel
theorem dX12_readCommand_95 : decode cX12_readCommand 95 = .ok (.invokevirtual 228, 3) := by decide +kernel
theorem dX12_readCommand_98 : decode cX12_readCommand 98 = .ok (.iastore, 1) := by decide +kernel
theorem dX12_readCommand_99 : decode cX12_readCommand 99 = .ok (.goto 261, 3) := by decide +kernel
theorem dX12_readCommand_102 : decode cX12_readCommand 102 = .ok (.iload_n 1, 1) := by decide +kernel
theorem dX12_readCommand_103 : decode cX12_readCommand 103 = .ok (.bipush 116, 2) := by decide +kernel
theorem dX12_readCommand_105 : decode cX12_readCommand 105 = .ok (.if_icmp .ne 33, 3) := by decide +kernel
theorem dX12_readCommand_108 : decode cX12_readCommand 108 = .ok (.aload_n 0, 1) := by decide +kernel
theorem dX12_readCommand_109 : decode cX12_readCommand 109 = .ok (.getfield 42, 3) := by decide +kernel
theorem dX12_readCommand_112 : decode cX12_readCommand 112 = .ok (.iload_n 3, 1) := by decide +kernel
theorem dX12_readCommand_113 : decode cX12_readCommand 113 = .ok (.bipush 116, 2) := by decide +kernel
theorem dX12_readCommand_115 : decode cX12_readCommand 115 = .ok (.iastore, 1) := by decide +kernel
theorem dX12_readCommand_116 : decode cX12_readCommand 116 = .ok (.aload_n 0, 1) := by decide +kernel
theorem dX12_readCommand_117 : decode cX12_readCommand 117 = .ok (.ldc 236, 2) := by decide +kernel
theorem dX12_readCommand_119 : decode cX12_readCommand 119 = .ok (.invokevirtual 216, 3) := by decide +kernel
theorem dX12_readCommand_122 : decode cX12_readCommand 122 = .ok (.aload_n 0, 1) := by decide +kernel
theorem dX12_readCommand_123 : decode cX12_readCommand 123 = .ok (.getfield 42, 3) := by decide +kernel
theorem dX12_readCommand_126 : decode cX12_readCommand 126 = .ok (.iload_n 3, 1) := by decide +kernel
theorem dX12_readCommand_127 : decode cX12_readCommand 127 = .ok (.iconst 1, 1) := by decide +kernel
theorem dX12_readCommand_128 : decode cX12_readCommand 128 = .ok (.iadd, 1) := by decide +kernel
theorem dX12_readCommand_129 : decode cX12_readCommand 129 = .ok (.aload_n 0, 1) := by decide +kernel
theorem dX12_readCommand_130 : decode cX12_readCommand 130 = .ok (.iconst 2, 1) := by decide +kernel
theorem dX12_readCommand_131 : decode cX12_readCommand 131 = .ok (.invokevirtual 220, 3) := by decide +kernel
theorem dX12_readCommand_134 : decode cX12_readCommand 134 = .ok (.iastore, 1) := by decide +kernel
theorem dX12_readCommand_135 : decode cX12_readCommand 135 = .ok (.goto 225, 3) := by decide +kernel
theorem dX12_readCommand_138 : decode cX12_readCommand 138 = .ok (.iload_n 1, 1) := by decide +kernel
theorem dX12_readCommand_139 : decode cX12_readCommand 139 = .ok (.bipush 115, 2) := by decide +kernel
theorem dX12_readCommand_141 : decode cX12_readCommand 141 = .ok (.if_icmp .ne 34, 3) := by decide +kernel
theorem dX12_readCommand_144 : decode cX12_readCommand 144 = .ok (.iload_n 2, 1) := by decide +kernel
theorem dX12_readCommand_145 : decode cX12_readCommand 145 = .ok (.bipush 108, 2) := by decide +kernel
theorem dX12_readCommand_147 : decode cX12_readCommand 147 = .ok (.if_icmp .ne 28, 3) := by decide +kernel
theorem dX12_readCommand_150 : decode cX12_readCommand 150 = .ok (.aload_n 0, 1) := by decide +kernel
theorem dX12_readCommand_151 : decode cX12_readCommand 151 = .ok (.getfield 42, 3) := by decide +kernel
theorem dX12_readCommand_154 : decode cX12_readCommand 154 = .ok (.iload_n 3, 1) := by decide +kernel
theorem dX12_readCommand_155 : decode cX12_readCommand 155 = .ok (.bipush 122, 2) := by decide +kernel
theorem dX12_readCommand_157 : decode cX12_readCommand 157 = .ok (.iastore, 1) := by decide +kernel
theorem dX12_readCommand_158 : decode cX12_readCommand 158 = .ok (.aload_n 0, 1) := by decide +kernel
theorem dX12_readCommand_159 : decode cX12_readCommand 159 = .ok (.getfield 42, 3) := by decide +kernel
theorem dX12_readCommand_162 : decode cX12_readCommand 162 = .ok (.iload_n 3, 1) := by decide +kernel
theorem dX12_readCommand_163 : decode cX12_readCommand 163 = .ok (.iconst 1, 1) := by decide +kernel
theorem dX12_readCommand_164 : decode cX12_readCommand 164 = .ok (.iadd, 1) := by decide +kernel
theorem dX12_readCommand_165 : decode cX12_readCommand 165 = .ok (.aload_n 0, 1) := by decide +kernel
theorem dX12_readCommand_166 : decode cX12_readCommand 166 = .ok (.ldc 238, 2) := by decide +kernel
theorem dX12_readCommand_168 : decode cX12_readCommand 168 = .ok (.invokevirtual 228, 3) := by decide +kernel
theorem dX12_readCommand_171 : decode cX12_readCommand 171 = .ok (.iastore, 1) := by decide +kernel
theorem dX12_readCommand_172 : decode cX12_readCommand 172 = .ok (.goto 188, 3) := by decide +kernel
theorem dX12_readCommand_175 : decode cX12_readCommand 175 = .ok (.iload_n 1, 1) := by decide +kernel
theorem dX12_readCommand_176 : decode cX12_readCommand 176 = .ok (.bipush 115, 2) := by decide +kernel
theorem dX12_readCommand_178 : decode cX12_readCommand 178 = .ok (.if_icmp .ne 61, 3) := by decide +kernel
theorem dX12_readCommand_181 : decode cX12_readCommand 181 = .ok (.aload_n 0, 1) := by decide +kernel
theorem dX12_readCommand_182 : decode cX12_readCommand 182 = .ok (.getfield 42, 3) := by decide +kernel
theorem dX12_readCommand_185 : decode cX12_readCommand 185 = .ok (.iload_n 3, 1) := by decide +kernel
theorem dX12_readCommand_186 : decode cX12_readCommand 186 = .ok (.bipush 115, 2) := by decide +kernel
theorem dX12_readCommand_188 : decode cX12_readCommand 188 = .ok (.iastore, 1) := by decide +kernel
theorem dX12_readCommand_189 : decode cX12_readCommand 189 = .ok (.aload_n 0, 1) := by decide +kernel
theorem dX12_readCommand_190 : decode cX12_readCommand 190 = .ok (.getfield 42, 3) := by decide +kernel
theorem dX12_readCommand_193 : decode cX12_readCommand 193 = .ok (.iload_n 3, 1) := by decide +kernel
theorem dX12_readCommand_194 : decode cX12_readCommand 194 = .ok (.iconst 1, 1) := by decide +kernel
theorem dX12_readCommand_195 : decode cX12_readCommand 195 = .ok (.iadd, 1) := by decide +kernel
theorem dX12_readCommand_196 : decode cX12_readCommand 196 = .ok (.aload_n 0, 1) := by decide +kernel
theorem dX12_readCommand_197 : decode cX12_readCommand 197 = .ok (.ldc 240, 2) := by decide +kernel
theorem dX12_readCommand_199 : decode cX12_readCommand 199 = .ok (.invokevirtual 228, 3) := by decide +kernel
theorem dX12_readCommand_202 : decode cX12_readCommand 202 = .ok (.iastore, 1) := by decide +kernel
theorem dX12_readCommand_203 : decode cX12_readCommand 203 = .ok (.aload_n 0, 1) := by decide +kernel
theorem dX12_readCommand_204 : decode cX12_readCommand 204 = .ok (.getfield 42, 3) := by decide +kernel
theorem dX12_readCommand_207 : decode cX12_readCommand 207 = .ok (.iload_n 3, 1) := by decide +kernel
theorem dX12_readCommand_208 : decode cX12_readCommand 208 = .ok (.iconst 2, 1) := by decide +kernel
theorem dX12_readCommand_209 : decode cX12_readCommand 209 = .ok (.iadd, 1) := by decide +kernel
theorem dX12_readCommand_210 : decode cX12_readCommand 210 = .ok (.aload_n 0, 1) := by decide +kernel
theorem dX12_readCommand_211 : decode cX12_readCommand 211 = .ok (.ldc 242, 2) := by decide +kernel
theorem dX12_readCommand_213 : decode cX12_readCommand 213 = .ok (.invokevirtual 228, 3) := by decide +kernel
theorem dX12_readCommand_216 : decode cX12_readCommand 216 = .ok (.iastore, 1) := by decide +kernel
theorem dX12_readCommand_217 : decode cX12_readCommand 217 = .ok (.aload_n 0, 1) := by decide +kernel
theorem dX12_readCommand_218 : decode cX12_readCommand 218 = .ok (.ldc 244, 2) := by decide +kernel
theorem dX12_readCommand_220 : decode cX12_readCommand 220 = .ok (.invokevirtual 216, 3) := by decide +kernel
theorem dX12_readCommand_223 : decode cX12_readCommand 223 = .ok (.aload_n 0, 1) := by decide +kernel
theorem dX12_readCommand_224 : decode cX12_readCommand 224 = .ok (.getfield 42, 3) := by decide +kernel
theorem dX12_readCommand_227 : decode cX12_readCommand 227 = .ok (.iload_n 3, 1) := by decide +kernel
theorem dX12_readCommand_228 : decode cX12_readCommand 228 = .ok (.iconst 3, 1) := by decide +kernel
theorem dX12_readCommand_229 : decode cX12_readCommand 229 = .ok (.iadd, 1) := by decide +kernel
theorem dX12_readCommand_230 : decode cX12_readCommand 230 = .ok (.aload_n 0, 1) := by decide +kernel
theorem dX12_readCommand_231 : decode cX12_readCommand 231 = .ok (.iconst 2, 1) := by decide +kernel
theorem dX12_readCommand_232 : decode cX12_readCommand 232 = .ok (.invokevirtual 220, 3) := by decide +kernel
theorem dX12_readCommand_235 : decode cX12_readCommand 235 = .ok (.iastore, 1) := by decide +kernel
theorem dX12_readCommand_236 : decode cX12_readCommand 236 = .ok (.goto 124, 3) := by decide +kernel
theorem dX12_readCommand_239 : decode cX12_readCommand 239 = .ok (.iload_n 1, 1) := by decide +kernel
theorem dX12_readCommand_240 : decode cX12_readCommand 240 = .ok (.bipush 104, 2) := by decide +kernel
theorem dX12_readCommand_242 : decode cX12_readCommand 242 = .ok (.if_icmp .ne 28, 3) := by decide +kernel
theorem dX12_readCommand_245 : decode cX12_readCommand 245 = .ok (.aload_n 0, 1) := by decide +kernel
theorem dX12_readCommand_246 : decode cX12_readCommand 246 = .ok (.getfield 42, 3) := by decide +kernel
theorem dX12_readCommand_249 : decode cX12_readCommand 249 = .ok (.iload_n 3, 1) := by decide +kernel
theorem dX12_readCommand_250 : decode cX12_readCommand 250 = .ok (.bipush 104, 2) := by decide +kernel
theorem dX12_readCommand_252 : decode cX12_readCommand 252 = .ok (.iastore, 1) := by decide +kernel
theorem dX12_readCommand_253 : decode cX12_readCommand 253 = .ok (.aload_n 0, 1) := by decide +kernel
theorem dX12_readCommand_254 : decode cX12_readCommand 254 = .ok (.getfield 42, 3) := by decide +kernel
theorem dX12_readCommand_257 : decode cX12_readCommand 257 = .ok (.iload_n 3, 1) := by decide +kernel
theorem dX12_readCommand_258 : decode cX12_readCommand 258 = .ok (.iconst 1, 1) := by decide +kernel
theorem dX12_readCommand_259 : decode cX12_readCommand 259 = .ok (.iadd, 1) := by decide +kernel
theorem dX12_readCommand_260 : decode cX12_readCommand 260 = .ok (.aload_n 0, 1) := by decide +kernel
theorem dX12_readCommand_261 : decode cX12_readCommand 261 = .ok (.ldc 246, 2) := by decide +kernel
theorem dX12_readCommand_263 : decode cX12_readCommand 263 = .ok (.invokevirtual 228, 3) := by decide +kernel
theorem dX12_readCommand_266 : decode cX12_readCommand 266 = .ok (.iastore, 1) := by decide +kernel
theorem dX12_readCommand_267 : decode cX12_readCommand 267 = .ok (.goto 93, 3) := by decide +kernel
theorem dX12_readCommand_270 : decode cX12_readCommand 270 = .ok (.iload_n 1, 1) := by decide +kernel
theorem dX12_readCommand_271 : decode cX12_readCommand 271 = .ok (.bipush 108, 2) := by decide +kernel
theorem dX12_readCommand_273 : decode cX12_readCommand 273 = .ok (.if_icmp .ne 28, 3) := by decide +kernel
theorem dX12_readCommand_276 : decode cX12_readCommand 276 = .ok (.aload_n 0, 1) := by decide +kernel
theorem dX12_readCommand_277 : decode cX12_readCommand 277 = .ok (.getfield 42, 3) := by decide +kernel
theorem dX12_readCommand_280 : decode cX12_readCommand 280 = .ok (.iload_n 3, 1) := by decide +kernel
theorem dX12_readCommand_281 : decode cX12_readCommand 281 = .ok (.bipush 108, 2) := by decide +kernel
theorem dX12_readCommand_283 : decode cX12_readCommand 283 = .ok (.iastore, 1) := by decide +kernel
theorem dX12_readCommand_284 : decode cX12_readCommand 284 = .ok (.aload_n 0, 1) := by decide +kernel
theorem dX12_readCommand_285 : decode cX12_readCommand 285 = .ok (.getfield 42, 3) := by decide +kernel
theorem dX12_readCommand_288 : decode cX12_readCommand 288 = .ok (.iload_n 3, 1) := by decide +kernel
theorem dX12_readCommand_289 : decode cX12_readCommand 289 = .ok (.iconst 1, 1) := by decide +kernel
theorem dX12_readCommand_290 : decode cX12_readCommand 290 = .ok (.iadd, 1) := by decide +kernel
theorem dX12_readCommand_291 : decode cX12_readCommand 291 = .ok (.aload_n 0, 1) := by decide +kernel
theorem dX12_readCommand_292 : decode cX12_readCommand 292 = .ok (.ldc 248, 2) := by decide +kernel
theorem dX12_readCommand_294 : decode cX12_readCommand 294 = .ok (.invokevirtual 228, 3) := by decide +kernel
theorem dX12_readCommand_297 : decode cX12_readCommand 297 = .ok (.iastore, 1) := by decide +kernel
theorem dX12_readCommand_298 : decode cX12_readCommand 298 = .ok (.goto 62, 3) := by decide +kernel
theorem dX12_readCommand_301 : decode cX12_readCommand 301 = .ok (.iload_n 1, 1) := by decide +kernel
theorem dX12_readCommand_302 : decode cX12_readCommand 302 = .ok (.bipush 103, 2) := by decide +kernel
theorem dX12_readCommand_304 : decode cX12_readCommand 304 = .ok (.if_icmp .ne 42, 3) := by decide +kernel
theorem dX12_readCommand_307 : decode cX12_readCommand 307 = .ok (.aload_n 0, 1) := by decide +kernel
theorem dX12_readCommand_308 : decode cX12_readCommand 308 = .ok (.getfield 42, 3) := by decide +kernel
theorem dX12_readCommand_311 : decode cX12_readCommand 311 = .ok (.iload_n 3, 1) := by decide +kernel
theorem dX12_readCommand_312 : decode cX12_readCommand 312 = .ok (.bipush 103, 2) := by decide +kernel
theorem dX12_readCommand_314 : decode cX12_readCommand 314 = .ok (.iastore, 1) := by decide +kernel
theorem dX12_readCommand_315 : decode cX12_readCommand 315 = .ok (.aload_n 0, 1) := by decide +kernel
theorem dX12_readCommand_316 : decode cX12_readCommand 316 = .ok (.getfield 42, 3) := by decide +kernel
theorem dX12_readCommand_319 : decode cX12_readCommand 319 = .ok (.iload_n 3, 1) := by decide +kernel
theorem dX12_readCommand_320 : decode cX12_readCommand 320 = .ok (.iconst 1, 1) := by decide +kernel
theorem dX12_readCommand_321 : decode cX12_readCommand 321 = .ok (.iadd, 1) := by decide +kernel
theorem dX12_readCommand_322 : decode cX12_readCommand 322 = .ok (.aload_n 0, 1) := by decide +kernel
theorem dX12_readCommand_323 : decode cX12_readCommand 323 = .ok (.ldc 250, 2) := by decide +kernel
theorem dX12_readCommand_325 : decode cX12_readCommand 325 = .ok (.invokevirtual 228, 3) := by decide +kernel
theorem dX12_readCommand_328 : decode cX12_readCommand 328 = .ok (.iastore, 1) := by decide +kernel
theorem dX12_readCommand_329 : decode cX12_readCommand 329 = .ok (.aload_n 0, 1) := by decide +kernel
theorem dX12_readCommand_330 : decode cX12_readCommand 330 = .ok (.getfield 42, 3) := by decide +kernel
theorem dX12_readCommand_333 : decode cX12_readCommand 333 = .ok (.iload_n 3, 1) := by decide +kernel
theorem dX12_readCommand_334 : decode cX12_readCommand 334 = .ok (.iconst 2, 1) := by decide +kernel
theorem dX12_readCommand_335 : decode cX12_readCommand 335 = .ok (.iadd, 1) := by decide +kernel
theorem dX12_readCommand_336 : decode cX12_readCommand 336 = .ok (.aload_n 0, 1) := by decide +kernel
theorem dX12_readCommand_337 : decode cX12_readCommand 337 = .ok (.ldc 252, 2) := by decide +kernel
theorem dX12_readCommand_339 : decode cX12_readCommand 339 = .ok (.invokevirtual 228, 3) := by decide +kernel
theorem dX12_readCommand_342 : decode cX12_readCommand 342 = .ok (.iastore, 1) := by decide +kernel
theorem dX12_readCommand_343 : decode cX12_readCommand 343 = .ok (.goto 17, 3) := by decide +kernel
theorem dX12_readCommand_346 : decode cX12_readCommand 346 = .ok (.aload_n 0, 1) := by decide +kernel
theorem dX12_readCommand_347 : decode cX12_readCommand 347 = .ok (.getfield 42, 3) := by decide +kernel
theorem dX12_readCommand_350 : decode cX12_readCommand 350 = .ok (.iload_n 3, 1) := by decide +kernel
theorem dX12_readCommand_351 : decode cX12_readCommand 351 = .ok (.bipush 99, 2) := by decide +kernel
theorem dX12_readCommand_353 : decode cX12_readCommand 353 = .ok (.iastore, 1) := by decide +kernel
theorem dX12_readCommand_354 : decode cX12_readCommand 354 = .ok (.aload_n 0, 1) := by decide +kernel
theorem dX12_readCommand_355 : decode cX12_readCommand 355 = .ok (.ldc 254, 2) := by decide +kernel
theorem dX12_readCommand_357 : decode cX12_readCommand 357 = .ok (.invokevirtual 216, 3) := by decide +kernel
theorem dX12_readCommand_360 : decode cX12_readCommand 360 = .ok (.return_, 1) := by decide +kernel
theorem dX12_does_0 : decode cX12_does 0 = .ok (.aload_n 0, 1) := by decide +kernel
theorem dX12_does_1 : decode cX12_does 1 = .ok (.getfield 42, 3) := by decide +kernel
theorem dX12_does_4 : decode cX12_does 4 = .ok (.iconst 4, 1) := by decide +kernel
theorem dX12_does_5 : decode cX12_does 5 = .ok (.iload_n 1, 1) := by decide +kernel
theorem dX12_does_6 : decode cX12_does 6 = .ok (.imul, 1) := by decide +kernel
theorem dX12_does_7 : decode cX12_does 7 = .ok (.iconst 1, 1) := by decide +kernel
theorem dX12_does_8 : decode cX12_does 8 = .ok (.iadd, 1) := by decide +kernel
theorem dX12_does_9 : decode cX12_does 9 = .ok (.iaload, 1) := by decide +kernel
theorem dX12_does_10 : decode cX12_does 10 = .ok (.istore_n 2, 1) := by decide +kernel
theorem dX12_does_11 : decode cX12_does 11 = .ok (.aload_n 0, 1) := by decide +kernel
theorem dX12_does_12 : decode cX12_does 12 = .ok (.getfield 42, 3) := by decide +kernel
theorem dX12_does_15 : decode cX12_does 15 = .ok (.iconst 4, 1) := by decide +kernel
theorem dX12_does_16 : decode cX12_does 16 = .ok (.iload_n 1, 1) := by decide +kernel
theorem dX12_does_17 : decode cX12_does 17 = .ok (.imul, 1) := by decide +kernel
theorem dX12_does_18 : decode cX12_does 18 = .ok (.iconst 2, 1) := by decide +kernel
theorem dX12_does_19 : decode cX12_does 19 = .ok (.iadd, 1) := by decide +kernel
theorem dX12_does_20 : decode cX12_does 20 = .ok (.iaload, 1) := by decide +kernel
theorem dX12_does_21 : decode cX12_does 21 = .ok (.istore_n 3, 1) := by decide +kernel
theorem dX12_does_22 : decode cX12_does 22 = .ok (.aload_n 0, 1) := by decide +kernel
theorem dX12_does_23 : decode cX12_does 23 = .ok (.getfield 42, 3) := by decide +kernel
theorem dX12_does_26 : decode cX12_does 26 = .ok (.iconst 4, 1) := by decide +kernel
theorem dX12_does_27 : decode cX12_does 27 = .ok (.iload_n 1, 1) := by decide +kernel
theorem dX12_does_28 : decode cX12_does 28 = .ok (.imul, 1) := by decide +kernel
theorem dX12_does_29 : decode cX12_does 29 = .ok (.iconst 3, 1) := by decide +kernel
theorem dX12_does_30 : decode cX12_does 30 = .ok (.iadd, 1) := by decide +kernel
theorem dX12_does_31 : decode cX12_does 31 = .ok (.iaload, 1) := by decide +kernel
theorem dX12_does_32 : decode cX12_does 32 = .ok (.istore 4, 2) := by decide +kernel
theorem dX12_does_34 : decode cX12_does 34 = .ok (.aload_n 0, 1) := by decide +kernel
theorem dX12_does_35 : decode cX12_does 35 = .ok (.getfield 42, 3) := by decide +kernel
theorem dX12_does_38 : decode cX12_does 38 = .ok (.iconst 4, 1) := by decide +kernel
theorem dX12_does_39 : decode cX12_does 39 = .ok (.iload_n 1, 1) := by decide +kernel
theorem dX12_does_40 : decode cX12_does 40 = .ok (.imul, 1) := by decide +kernel
theorem dX12_does_41 : decode cX12_does 41 = .ok (.iaload, 1) := by decide +kernel
theorem dX12_does_42 : decode cX12_does 42 = .ok (.tableswitch 179 103 122 #[168, 158, 179, 179, 179, 117, 179, 179, 179, 179, 179, 179, 145, 107, 94, 179, 179, 179, 179, 117], 94) := by decide +kernel
theorem dX12_does_136 : decode cX12_does 136 = .ok (.aload_n 0, 1) := by decide +kernel
theorem dX12_does_137 : decode cX12_does 137 = .ok (.iload_n 2, 1) := by decide +kernel
theorem dX12_does_138 : decode cX12_does 138 = .ok (.iload_n 3, 1) := by decide +kernel
theorem dX12_does_139 : decode cX12_does 139 = .ok (.iload 4, 2) := by decide +kernel
theorem dX12_does_141 : decode cX12_does 141 = .ok (.invokevirtual 92, 3) := by decide +kernel
theorem dX12_does_144 : decode cX12_does 144 = .ok (.istore 5, 2) := by decide +kernel
theorem dX12_does_146 : decode cX12_does 146 = .ok (.goto 81, 3) := by decide +kernel
theorem dX12_does_149 : decode cX12_does 149 = .ok (.aload_n 0, 1) := by decide +kernel
theorem dX12_does_150 : decode cX12_does 150 = .ok (.iload_n 2, 1) := by decide +kernel
theorem dX12_does_151 : decode cX12_does 151 = .ok (.invokevirtual 179, 3) := by decide +kernel
theorem dX12_does_154 : decode cX12_does 154 = .ok (.istore 5, 2) := by decide +kernel
theorem dX12_does_156 : decode cX12_does 156 = .ok (.goto 71, 3) := by decide +kernel
theorem dX12_does_159 : decode cX12_does 159 = .ok (.aload_n 0, 1) := by decide +kernel
theorem dX12_does_160 : decode cX12_does 160 = .ok (.iload_n 2, 1) := by decide +kernel
theorem dX12_does_161 : decode cX12_does 161 = .ok (.aload_n 0, 1) := by decide +kernel
theorem dX12_does_162 : decode cX12_does 162 = .ok (.getfield 42, 3) := by decide +kernel
theorem dX12_does_165 : decode cX12_does 165 = .ok (.iconst 4, 1) := by decide +kernel
theorem dX12_does_166 : decode cX12_does 166 = .ok (.iload_n 1, 1) := by decide +kernel
theorem dX12_does_167 : decode cX12_does 167 = .ok (.imul, 1) := by decide +kernel
theorem dX12_does_168 : decode cX12_does 168 = .ok (.iaload, 1) := by decide +kernel
theorem dX12_does_169 : decode cX12_does 169 = .ok (.bipush 108, 2) := by decide +kernel
theorem dX12_does_171 : decode cX12_does 171 = .ok (.if_icmp .ne 7, 3) := by decide +kernel
theorem dX12_does_174 : decode cX12_does 174 = .ok (.iconst 1, 1) := by decide +kernel
theorem dX12_does_175 : decode cX12_does 175 = .ok (.goto 4, 3) := by decide +kernel
theorem dX12_does_178 : decode cX12_does 178 = .ok (.iconst 0, 1) := by decide +kernel
theorem dX12_does_179 : decode cX12_does 179 = .ok (.invokevirtual 135, 3) := by decide +kernel
theorem dX12_does_182 : decode cX12_does 182 = .ok (.istore 5, 2) := by decide +kernel
theorem dX12_does_184 : decode cX12_does 184 = .ok (.goto 43, 3) := by decide +kernel
theorem dX12_does_187 : decode cX12_does 187 = .ok (.aload_n 0, 1) := by decide +kernel
theorem dX12_does_188 : decode cX12_does 188 = .ok (.iload_n 2, 1) := by decide +kernel
theorem dX12_does_189 : decode cX12_does 189 = .ok (.iload_n 3, 1) := by decide +kernel
theorem dX12_does_190 : decode cX12_does 190 = .ok (.iload 4, 2) := by decide +kernel
theorem dX12_does_192 : decode cX12_does 192 = .ok (.invokevirtual 143, 3) := by decide +kernel
theorem dX12_does_195 : decode cX12_does 195 = .ok (.istore 5, 2) := by decide +kernel
theorem dX12_does_197 : decode cX12_does 197 = .ok (.goto 30, 3) := by decide +kernel
theorem dX12_does_200 : decode cX12_does 200 = .ok (.aload_n 0, 1) := by decide +kernel
theorem dX12_does_201 : decode cX12_does 201 = .ok (.iload_n 2, 1) := by decide +kernel
theorem dX12_does_202 : decode cX12_does 202 = .ok (.invokevirtual 123, 3) := by decide +kernel
theorem dX12_does_205 : decode cX12_does 205 = .ok (.istore 5, 2) := by decide +kernel
theorem dX12_does_207 : decode cX12_does 207 = .ok (.goto 20, 3) := by decide +kernel
theorem dX12_does_210 : decode cX12_does 210 = .ok (.aload_n 0, 1) := by decide +kernel
theorem dX12_does_211 : decode cX12_does 211 = .ok (.iload_n 2, 1) := by decide +kernel
theorem dX12_does_212 : decode cX12_does 212 = .ok (.iload_n 3, 1) := by decide +kernel
theorem dX12_does_213 : decode cX12_does 213 = .ok (.invokevirtual 132, 3) := by decide +kernel
theorem dX12_does_216 : decode cX12_does 216 = .ok (.istore 5, 2) := by decide +kernel
theorem dX12_does_218 : decode cX12_does 218 = .ok (.goto 9, 3) := by decide +kernel
theorem dX12_does_221 : decode cX12_does 221 = .ok (.aload_n 0, 1) := by decide +kernel
theorem dX12_does_222 : decode cX12_does 222 = .ok (.invokevirtual 78, 3) := by decide +kernel
theorem dX12_does_225 : decode cX12_does 225 = .ok (.istore 5, 2) := by decide +kernel
theorem dX12_does_227 : decode cX12_does 227 = .ok (.return_, 1) := by decide +kernel
theorem dX12_execute_0 : decode cX12_execute 0 = .ok (.aload_n 0, 1) := by decide +kernel
theorem dX12_execute_1 : decode cX12_execute 1 = .ok (.iconst 0, 1) := by decide +kernel
theorem dX12_execute_2 : decode cX12_execute 2 = .ok (.putfield 194, 3) := by decide +kernel
theorem dX12_execute_5 : decode cX12_execute 5 = .ok (.aload_n 0, 1) := by decide +kernel
theorem dX12_execute_6 : decode cX12_execute 6 = .ok (.iconst 0, 1) := by decide +kernel
theorem dX12_execute_7 : decode cX12_execute 7 = .ok (.putfield 201, 3) := by decide +kernel
theorem dX12_execute_10 : decode cX12_execute 10 = .ok (.aload_n 0, 1) := by decide +kernel
theorem dX12_execute_11 : decode cX12_execute 11 = .ok (.iconst 0, 1) := by decide +kernel
theorem dX12_execute_12 : decode cX12_execute 12 = .ok (.putfield 223, 3) := by decide +kernel
theorem dX12_execute_15 : decode cX12_execute 15 = .ok (.aload_n 0, 1) := by decide +kernel
theorem dX12_execute_16 : decode cX12_execute 16 = .ok (.invokevirtual 256, 3) := by decide +kernel
theorem dX12_execute_19 : decode cX12_execute 19 = .ok (.aload_n 0, 1) := by decide +kernel
theorem dX12_execute_20 : decode cX12_execute 20 = .ok (.getfield 201, 3) := by decide +kernel
theorem dX12_execute_23 : decode cX12_execute 23 = .ok (.ifCond .ne 30, 3) := by decide +kernel
theorem dX12_execute_26 : decode cX12_execute 26 = .ok (.aload_n 0, 1) := by decide +kernel
theorem dX12_execute_27 : decode cX12_execute 27 = .ok (.iconst 0, 1) := by decide +kernel
theorem dX12_execute_28 : decode cX12_execute 28 = .ok (.invokevirtual 205, 3) := by decide +kernel
theorem dX12_execute_31 : decode cX12_execute 31 = .ok (.bipush 59, 2) := by decide +kernel
theorem dX12_execute_33 : decode cX12_execute 33 = .ok (.if_icmp .ne 20, 3) := by decide +kernel
theorem dX12_execute_36 : decode cX12_execute 36 = .ok (.aload_n 0, 1) := by decide +kernel
theorem dX12_execute_37 : decode cX12_execute 37 = .ok (.dup, 1) := by decide +kernel
theorem dX12_execute_38 : decode cX12_execute 38 = .ok (.getfield 194, 3) := by decide +kernel
theorem dX12_execute_41 : decode cX12_execute 41 = .ok (.iconst 1, 1) := by decide +kernel
theorem dX12_execute_42 : decode cX12_execute 42 = .ok (.iadd, 1) := by decide +kernel
theorem dX12_execute_43 : decode cX12_execute 43 = .ok (.putfield 194, 3) := by decide +kernel
theorem dX12_execute_46 : decode cX12_execute 46 = .ok (.aload_n 0, 1) := by decide +kernel
theorem dX12_execute_47 : decode cX12_execute 47 = .ok (.invokevirtual 256, 3) := by decide +kernel
theorem dX12_execute_50 : decode cX12_execute 50 = .ok (.goto (-31), 3) := by decide +kernel
theorem dX12_execute_53 : decode cX12_execute 53 = .ok (.aload_n 0, 1) := by decide +kernel
theorem dX12_execute_54 : decode cX12_execute 54 = .ok (.aload_n 0, 1) := by decide +kernel
theorem dX12_execute_55 : decode cX12_execute 55 = .ok (.getfield 201, 3) := by decide +kernel
theorem dX12_execute_58 : decode cX12_execute 58 = .ok (.ifCond .ne 14, 3) := by decide +kernel
theorem dX12_execute_61 : decode cX12_execute 61 = .ok (.aload_n 0, 1) := by decide +kernel
theorem dX12_execute_62 : decode cX12_execute 62 = .ok (.getfield 194, 3) := by decide +kernel
theorem dX12_execute_65 : decode cX12_execute 65 = .ok (.aload_n 0, 1) := by decide +kernel
theorem dX12_execute_66 : decode cX12_execute 66 = .ok (.getfield 191, 3) := by decide +kernel
theorem dX12_execute_69 : decode cX12_execute 69 = .ok (.if_icmp .ge 7, 3) := by decide +kernel
theorem dX12_execute_72 : decode cX12_execute 72 = .ok (.iconst 1, 1) := by decide +kernel
theorem dX12_execute_73 : decode cX12_execute 73 = .ok (.goto 4, 3) := by decide +kernel
theorem dX12_execute_76 : decode cX12_execute 76 = .ok (.iconst 0, 1) := by decide +kernel
theorem dX12_execute_77 : decode cX12_execute 77 = .ok (.putfield 201, 3) := by decide +kernel
theorem dX12_execute_80 : decode cX12_execute 80 = .ok (.aload_n 0, 1) := by decide +kernel
theorem dX12_execute_81 : decode cX12_execute 81 = .ok (.aload_n 0, 1) := by decide +kernel
theorem dX12_execute_82 : decode cX12_execute 82 = .ok (.getfield 201, 3) := by decide +kernel
theorem dX12_execute_85 : decode cX12_execute 85 = .ok (.ifCond .eq 10, 3) := by decide +kernel
theorem dX12_execute_88 : decode cX12_execute 88 = .ok (.aload_n 0, 1) := by decide +kernel
theorem dX12_execute_89 : decode cX12_execute 89 = .ok (.getfield 194, 3) := by decide +kernel
theorem dX12_execute_92 : decode cX12_execute 92 = .ok (.goto 7, 3) := by decide +kernel
theorem dX12_execute_95 : decode cX12_execute 95 = .ok (.aload_n 0, 1) := by decide +kernel
theorem dX12_execute_96 : decode cX12_execute 96 = .ok (.getfield 35, 3) := by decide +kernel
theorem dX12_execute_99 : decode cX12_execute 99 = .ok (.putfield 35, 3) := by decide +kernel
theorem dX12_execute_102 : decode cX12_execute 102 = .ok (.aload_n 0, 1) := by decide +kernel
theorem dX12_execute_103 : decode cX12_execute 103 = .ok (.iconst 0, 1) := by decide +kernel
theorem dX12_execute_104 : decode cX12_execute 104 = .ok (.putfield 191, 3) := by decide +kernel
theorem dX12_execute_107 : decode cX12_execute 107 = .ok (.aload_n 0, 1) := by decide +kernel
theorem dX12_execute_108 : decode cX12_execute 108 = .ok (.getfield 201, 3) := by decide +kernel
theorem dX12_execute_111 : decode cX12_execute 111 = .ok (.ifCond .eq 9, 3) := by decide +kernel
theorem dX12_execute_114 : decode cX12_execute 114 = .ok (.aload_n 0, 1) := by decide +kernel
theorem dX12_execute_115 : decode cX12_execute 115 = .ok (.iconst 1, 1) := by decide +kernel
theorem dX12_execute_116 : decode cX12_execute 116 = .ok (.invokevirtual 71, 3) := by decide +kernel
theorem dX12_execute_119 : decode cX12_execute 119 = .ok (.ireturn, 1) := by decide +kernel
theorem dX12_execute_120 : decode cX12_execute 120 = .ok (.aload_n 0, 1) := by decide +kernel
theorem dX12_execute_121 : decode cX12_execute 121 = .ok (.invokevirtual 75, 3) := by decide +kernel
theorem dX12_execute_124 : decode cX12_execute 124 = .ok (.iconst 0, 1) := by decide +kernel
theorem dX12_execute_125 : decode cX12_execute 125 = .ok (.istore_n 1, 1) := by decide +kernel
theorem dX12_execute_126 : decode cX12_execute 126 = .ok (.iload_n 1, 1) := by decide +kernel
theorem dX12_execute_127 : decode cX12_execute 127 = .ok (.aload_n 0, 1) := by decide +kernel
theorem dX12_execute_128 : decode cX12_execute 128 = .ok (.getfield 223, 3) := by decide +kernel
theorem dX12_execute_131 : decode cX12_execute 131 = .ok (.if_icmp .ge 36, 3) := by decide +kernel
theorem dX12_execute_134 : decode cX12_execute 134 = .ok (.aload_n 0, 1) := by decide +kernel
theorem dX12_execute_135 : decode cX12_execute 135 = .ok (.iload_n 1, 1) := by decide +kernel
theorem dX12_execute_136 : decode cX12_execute 136 = .ok (.invokevirtual 259, 3) := by decide +kernel
theorem dX12_execute_139 : decode cX12_execute 139 = .ok (.aload_n 0, 1) := by decide +kernel
theorem dX12_execute_140 : decode cX12_execute 140 = .ok (.getfield 45, 3) := by decide +kernel
theorem dX12_execute_143 : decode cX12_execute 143 = .ok (.ifCond .le 18, 3) := by decide +kernel
theorem dX12_execute_146 : decode cX12_execute 146 = .ok (.aload_n 0, 1) := by decide +kernel
theorem dX12_execute_147 : decode cX12_execute 147 = .ok (.iload_n 1, 1) := by decide +kernel
theorem dX12_execute_148 : decode cX12_execute 148 = .ok (.putfield 39, 3) := by decide +kernel
theorem dX12_execute_151 : decode cX12_execute 151 = .ok (.aload_n 0, 1) := by decide +kernel
theorem dX12_execute_152 : decode cX12_execute 152 = .ok (.aload_n 0, 1) := by decide +kernel
theorem dX12_execute_153 : decode cX12_execute 153 = .ok (.iconst 2, 1) := by decide +kernel
theorem dX12_execute_154 : decode cX12_execute 154 = .ok (.invokevirtual 71, 3) := by decide +kernel
theorem dX12_execute_157 : decode cX12_execute 157 = .ok (.invokevirtual 82, 3) := by decide +kernel
theorem dX12_execute_160 : decode cX12_execute 160 = .ok (.ireturn, 1) := by decide +kernel
theorem dX12_execute_161 : decode cX12_execute 161 = .ok (.iinc 1 1, 3) := by decide +kernel
theorem dX12_execute_164 : decode cX12_execute 164 = .ok (.goto (-38), 3) := by decide +kernel
theorem dX12_execute_167 : decode cX12_execute 167 = .ok (.aload_n 0, 1) := by decide +kernel
theorem dX12_execute_168 : decode cX12_execute 168 = .ok (.aload_n 0, 1) := by decide +kernel
theorem dX12_execute_169 : decode cX12_execute 169 = .ok (.getfield 223, 3) := by decide +kernel
theorem dX12_execute_172 : decode cX12_execute 172 = .ok (.invokevirtual 82, 3) := by decide +kernel
theorem dX12_execute_175 : decode cX12_execute 175 = .ok (.ireturn, 1) := by decide +kernel
theorem dX12_errorPosition_0 : decode cX12_errorPosition 0 = .ok (.aload_n 0, 1) := by decide +kernel
theorem dX12_errorPosition_1 : decode cX12_errorPosition 1 = .ok (.aload_n 0, 1) := by decide +kernel
theorem dX12_errorPosition_2 : decode cX12_errorPosition 2 = .ok (.getfield 35, 3) := by decide +kernel
theorem dX12_errorPosition_5 : decode cX12_errorPosition 5 = .ok (.ifCond .lt 7, 3) := by decide +kernel
theorem dX12_errorPosition_8 : decode cX12_errorPosition 8 = .ok (.iconst 1, 1) := by decide +kernel
theorem dX12_errorPosition_9 : decode cX12_errorPosition 9 = .ok (.goto 4, 3) := by decide +kernel
theorem dX12_errorPosition_12 : decode cX12_errorPosition 12 = .ok (.iconst 0, 1) := by decide +kernel
theorem dX12_errorPosition_13 : decode cX12_errorPosition 13 = .ok (.invokevirtual 106, 3) := by decide +kernel
theorem dX12_errorPosition_16 : decode cX12_errorPosition 16 = .ok (.ifCond .eq 10, 3) := by decide +kernel
theorem dX12_errorPosition_19 : decode cX12_errorPosition 19 = .ok (.aload_n 0, 1) := by decide +kernel
theorem dX12_errorPosition_20 : decode cX12_errorPosition 20 = .ok (.getfield 35, 3) := by decide +kernel
theorem dX12_errorPosition_23 : decode cX12_errorPosition 23 = .ok (.goto 4, 3) := by decide +kernel
theorem dX12_errorPosition_26 : decode cX12_errorPosition 26 = .ok (.iconst 0, 1) := by decide +kernel
theorem dX12_errorPosition_27 : decode cX12_errorPosition 27 = .ok (.ireturn, 1) := by decide +kernel
theorem dX12_failedCommand_0 : decode cX12_failedCommand 0 = .ok (.aload_n 0, 1) := by decide +kernel
theorem dX12_failedCommand_1 : decode cX12_failedCommand 1 = .ok (.aload_n 0, 1) := by decide +kernel
theorem dX12_failedCommand_2 : decode cX12_failedCommand 2 = .ok (.getfield 39, 3) := by decide +kernel
theorem dX12_failedCommand_5 : decode cX12_failedCommand 5 = .ok (.ifCond .lt 7, 3) := by decide +kernel
theorem dX12_failedCommand_8 : decode cX12_failedCommand 8 = .ok (.iconst 1, 1) := by decide +kernel
theorem dX12_failedCommand_9 : decode cX12_failedCommand 9 = .ok (.goto 4, 3) := by decide +kernel
theorem dX12_failedCommand_12 : decode cX12_failedCommand 12 = .ok (.iconst 0, 1) := by decide +kernel
theorem dX12_failedCommand_13 : decode cX12_failedCommand 13 = .ok (.invokevirtual 106, 3) := by decide +kernel
theorem dX12_failedCommand_16 : decode cX12_failedCommand 16 = .ok (.ifCond .eq 10, 3) := by decide +kernel
theorem dX12_failedCommand_19 : decode cX12_failedCommand 19 = .ok (.aload_n 0, 1) := by decide +kernel
theorem dX12_failedCommand_20 : decode cX12_failedCommand 20 = .ok (.getfield 39, 3) := by decide +kernel
theorem dX12_failedCommand_23 : decode cX12_failedCommand 23 = .ok (.goto 4, 3) := by decide +kernel
theorem dX12_failedCommand_26 : decode cX12_failedCommand 26 = .ok (.iconst 0, 1) := by decide +kernel
theorem dX12_failedCommand_27 : decode cX12_failedCommand 27 = .ok (.ireturn, 1) := by decide +kernel
theorem dX12_undo_0 : decode cX12_undo 0 = .ok (.aload_n 0, 1) := by decide +kernel
theorem dX12_undo_1 : decode cX12_undo 1 = .ok (.aload_n 0, 1) := by decide +kernel
theorem dX12_undo_2 : decode cX12_undo 2 = .ok (.getfield 54, 3) := by decide +kernel
theorem dX12_undo_5 : decode cX12_undo 5 = .ok (.ifCond .ne 7, 3) := by decide +kernel
theorem dX12_undo_8 : decode cX12_undo 8 = .ok (.iconst 1, 1) := by decide +kernel
theorem dX12_undo_9 : decode cX12_undo 9 = .ok (.goto 4, 3) := by decide +kernel
theorem dX12_undo_12 : decode cX12_undo 12 = .ok (.iconst 0, 1) := by decide +kernel
theorem dX12_undo_13 : decode cX12_undo 13 = .ok (.putfield 45, 3) := by decide +kernel
theorem dX12_undo_16 : decode cX12_undo 16 = .ok (.aload_n 0, 1) := by decide +kernel
theorem dX12_undo_17 : decode cX12_undo 17 = .ok (.getfield 45, 3) := by decide +kernel
theorem dX12_undo_20 : decode cX12_undo 20 = .ok (.ifCond .le 5, 3) := by decide +kernel
theorem dX12_undo_23 : decode cX12_undo 23 = .ok (.iconst 0, 1) := by decide +kernel
theorem dX12_undo_24 : decode cX12_undo 24 = .ok (.ireturn, 1) := by decide +kernel
theorem dX12_undo_25 : decode cX12_undo 25 = .ok (.aload_n 0, 1) := by decide +kernel
theorem dX12_undo_26 : decode cX12_undo 26 = .ok (.dup, 1) := by decide +kernel
theorem dX12_undo_27 : decode cX12_undo 27 = .ok (.getfield 54, 3) := by decide +kernel
theorem dX12_undo_30 : decode cX12_undo 30 = .ok (.iconst 1, 1) := by decide +kernel
theorem dX12_undo_31 : decode cX12_undo 31 = .ok (.isub, 1) := by decide +kernel
theorem dX12_undo_32 : decode cX12_undo 32 = .ok (.putfield 54, 3) := by decide +kernel
theorem dX12_undo_35 : decode cX12_undo 35 = .ok (.aload_n 0, 1) := by decide +kernel
theorem dX12_undo_36 : decode cX12_undo 36 = .ok (.getfield 22, 3) := by decide +kernel
theorem dX12_undo_39 : decode cX12_undo 39 = .ok (.sipush 1496, 3) := by decide +kernel
theorem dX12_undo_42 : decode cX12_undo 42 = .ok (.aload_n 0, 1) := by decide +kernel
theorem dX12_undo_43 : decode cX12_undo 43 = .ok (.getfield 54, 3) := by decide +kernel
theorem dX12_undo_46 : decode cX12_undo 46 = .ok (.imul, 1) := by decide +kernel
theorem dX12_undo_47 : decode cX12_undo 47 = .ok (.aload_n 0, 1) := by decide +kernel
theorem dX12_undo_48 : decode cX12_undo 48 = .ok (.getfield 9, 3) := by decide +kernel
theorem dX12_undo_51 : decode cX12_undo 51 = .ok (.iconst 0, 1) := by decide +kernel
theorem dX12_undo_52 : decode cX12_undo 52 = .ok (.sipush 1496, 3) := by decide +kernel
theorem dX12_undo_55 : decode cX12_undo 55 = .ok (.invokestatic 48, 3) := by decide +kernel
theorem dX12_undo_58 : decode cX12_undo 58 = .ok (.aload_n 0, 1) := by decide +kernel
theorem dX12_undo_59 : decode cX12_undo 59 = .ok (.getfield 54, 3) := by decide +kernel
theorem dX12_undo_62 : decode cX12_undo 62 = .ok (.ireturn, 1) := by decide +kernel
theorem dX12_undoCount_0 : decode cX12_undoCount 0 = .ok (.aload_n 0, 1) := by decide +kernel
theorem dX12_undoCount_1 : decode cX12_undoCount 1 = .ok (.iconst 0, 1) := by decide +kernel
theorem dX12_undoCount_2 : decode cX12_undoCount 2 = .ok (.putfield 45, 3) := by decide +kernel
theorem dX12_undoCount_5 : decode cX12_undoCount 5 = .ok (.aload_n 0, 1) := by decide +kernel
theorem dX12_undoCount_6 : decode cX12_undoCount 6 = .ok (.getfield 54, 3) := by decide +kernel
theorem dX12_undoCount_9 : decode cX12_undoCount 9 = .ok (.ireturn, 1) := by decide +kernel
theorem dX12_save_0 : decode cX12_save 0 = .ok (.aload_n 0, 1) := by decide +kernel
theorem dX12_save_1 : decode cX12_save 1 = .ok (.iconst 0, 1) := by decide +kernel
theorem dX12_save_2 : decode cX12_save 2 = .ok (.putfield 45, 3) := by decide +kernel
theorem dX12_save_5 : decode cX12_save 5 = .ok (.aload_n 0, 1) := by decide +kernel
theorem dX12_save_6 : decode cX12_save 6 = .ok (.getfield 9, 3) := by decide +kernel
theorem dX12_save_9 : decode cX12_save 9 = .ok (.iconst 0, 1) := by decide +kernel
theorem dX12_save_10 : decode cX12_save 10 = .ok (.aload_n 0, 1) := by decide +kernel
theorem dX12_save_11 : decode cX12_save 11 = .ok (.getfield 19, 3) := by decide +kernel
theorem dX12_save_14 : decode cX12_save 14 = .ok (.iconst 0, 1) := by decide +kernel
theorem dX12_save_15 : decode cX12_save 15 = .ok (.sipush 1496, 3) := by decide +kernel
theorem dX12_save_18 : decode cX12_save 18 = .ok (.invokestatic 48, 3) := by decide +kernel
theorem dX12_save_21 : decode cX12_save 21 = .ok (.aload_n 0, 1) := by decide +kernel
theorem dX12_save_22 : decode cX12_save 22 = .ok (.iconst 1, 1) := by decide +kernel
theorem dX12_save_23 : decode cX12_save 23 = .ok (.putfield 262, 3) := by decide +kernel
theorem dX12_save_26 : decode cX12_save 26 = .ok (.aload_n 0, 1) := by decide +kernel
theorem dX12_save_27 : decode cX12_save 27 = .ok (.getfield 9, 3) := by decide +kernel
theorem dX12_save_30 : decode cX12_save 30 = .ok (.iconst 1, 1) := by decide +kernel
theorem dX12_save_31 : decode cX12_save 31 = .ok (.iaload, 1) := by decide +kernel
theorem dX12_save_32 : decode cX12_save 32 = .ok (.ireturn, 1) := by decide +kernel
theorem dX12_restore_0 : decode cX12_restore 0 = .ok (.aload_n 0, 1) := by decide +kernel
theorem dX12_restore_1 : decode cX12_restore 1 = .ok (.aload_n 0, 1) := by decide +kernel
theorem dX12_restore_2 : decode cX12_restore 2 = .ok (.getfield 262, 3) := by decide +kernel
theorem dX12_restore_5 : decode cX12_restore 5 = .ok (.ifCond .eq 7, 3) := by decide +kernel
theorem dX12_restore_8 : decode cX12_restore 8 = .ok (.iconst 0, 1) := by decide +kernel
theorem dX12_restore_9 : decode cX12_restore 9 = .ok (.goto 4, 3) := by decide +kernel
theorem dX12_restore_12 : decode cX12_restore 12 = .ok (.iconst 1, 1) := by decide +kernel
theorem dX12_restore_13 : decode cX12_restore 13 = .ok (.putfield 45, 3) := by decide +kernel
theorem dX12_restore_16 : decode cX12_restore 16 = .ok (.aload_n 0, 1) := by decide +kernel
theorem dX12_restore_17 : decode cX12_restore 17 = .ok (.getfield 45, 3) := by decide +kernel
theorem dX12_restore_20 : decode cX12_restore 20 = .ok (.ifCond .le 5, 3) := by decide +kernel
theorem dX12_restore_23 : decode cX12_restore 23 = .ok (.iconst 0, 1) := by decide +kernel
theorem dX12_restore_24 : decode cX12_restore 24 = .ok (.ireturn, 1) := by decide +kernel
theorem dX12_restore_25 : decode cX12_restore 25 = .ok (.aload_n 0, 1) := by decide +kernel
theorem dX12_restore_26 : decode cX12_restore 26 = .ok (.getfield 19, 3) := by decide +kernel
theorem dX12_restore_29 : decode cX12_restore 29 = .ok (.iconst 0, 1) := by decide +kernel
theorem dX12_restore_30 : decode cX12_restore 30 = .ok (.aload_n 0, 1) := by decide +kernel
theorem dX12_restore_31 : decode cX12_restore 31 = .ok (.getfield 9, 3) := by decide +kernel
theorem dX12_restore_34 : decode cX12_restore 34 = .ok (.iconst 0, 1) := by decide +kernel
theorem dX12_restore_35 : decode cX12_restore 35 = .ok (.sipush 1496, 3) := by decide +kernel
theorem dX12_restore_38 : decode cX12_restore 38 = .ok (.invokestatic 48, 3) := by decide +kernel
theorem dX12_restore_41 : decode cX12_restore 41 = .ok (.aload_n 0, 1) := by decide +kernel
theorem dX12_restore_42 : decode cX12_restore 42 = .ok (.iconst 0, 1) := by decide +kernel
theorem dX12_restore_43 : decode cX12_restore 43 = .ok (.putfield 54, 3) := by decide +kernel
theorem dX12_restore_46 : decode cX12_restore 46 = .ok (.aload_n 0, 1) := by decide +kernel
theorem dX12_restore_47 : decode cX12_restore 47 = .ok (.getfield 9, 3) := by decide +kernel
theorem dX12_restore_50 : decode cX12_restore 50 = .ok (.iconst 1, 1) := by decide +kernel
theorem dX12_restore_51 : decode cX12_restore 51 = .ok (.iaload, 1) := by decide +kernel
theorem dX12_restore_52 : decode cX12_restore 52 = .ok (.ireturn, 1) := by decide +kernel
