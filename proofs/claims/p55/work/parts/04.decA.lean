theorem dX1_init_0 : decode cX1_init 0 = .ok (.aload_n 0, 1) := by decide +kernel
theorem dX1_init_1 : decode cX1_init 1 = .ok (.invokespecial 3, 3) := by decide +kernel
theorem dX1_init_4 : decode cX1_init 4 = .ok (.aload_n 0, 1) := by decide +kernel
theorem dX1_init_5 : decode cX1_init 5 = .ok (.sipush 1024, 3) := by decide +kernel
theorem dX1_init_8 : decode cX1_init 8 = .ok (.newarray .int, 2) := by decide +kernel
theorem dX1_init_10 : decode cX1_init 10 = .ok (.putfield 9, 3) := by decide +kernel
theorem dX1_init_13 : decode cX1_init 13 = .ok (.return_, 1) := by decide +kernel
theorem dX1_copyFrom_0 : decode cX1_copyFrom 0 = .ok (.aload_n 1, 1) := by decide +kernel
theorem dX1_copyFrom_1 : decode cX1_copyFrom 1 = .ok (.getfield 9, 3) := by decide +kernel
theorem dX1_copyFrom_4 : decode cX1_copyFrom 4 = .ok (.iconst 0, 1) := by decide +kernel
theorem dX1_copyFrom_5 : decode cX1_copyFrom 5 = .ok (.aload_n 0, 1) := by decide +kernel
theorem dX1_copyFrom_6 : decode cX1_copyFrom 6 = .ok (.getfield 9, 3) := by decide +kernel
theorem dX1_copyFrom_9 : decode cX1_copyFrom 9 = .ok (.iconst 0, 1) := by decide +kernel
theorem dX1_copyFrom_10 : decode cX1_copyFrom 10 = .ok (.sipush 1024, 3) := by decide +kernel
theorem dX1_copyFrom_13 : decode cX1_copyFrom 13 = .ok (.invokestatic 15, 3) := by decide +kernel
theorem dX1_copyFrom_16 : decode cX1_copyFrom 16 = .ok (.return_, 1) := by decide +kernel
theorem dX1_addThump_0 : decode cX1_addThump 0 = .ok (.iload_n 1, 1) := by decide +kernel
theorem dX1_addThump_1 : decode cX1_addThump 1 = .ok (.ifCond .lt 28, 3) := by decide +kernel
theorem dX1_addThump_4 : decode cX1_addThump 4 = .ok (.iload_n 1, 1) := by decide +kernel
theorem dX1_addThump_5 : decode cX1_addThump 5 = .ok (.bipush 8, 2) := by decide +kernel
theorem dX1_addThump_7 : decode cX1_addThump 7 = .ok (.if_icmp .ge 22, 3) := by decide +kernel
theorem dX1_addThump_10 : decode cX1_addThump 10 = .ok (.aload_n 0, 1) := by decide +kernel
theorem dX1_addThump_11 : decode cX1_addThump 11 = .ok (.getfield 9, 3) := by decide +kernel
theorem dX1_addThump_14 : decode cX1_addThump 14 = .ok (.iload_n 1, 1) := by decide +kernel
theorem dX1_addThump_15 : decode cX1_addThump 15 = .ok (.sipush 128, 3) := by decide +kernel
theorem dX1_addThump_18 : decode cX1_addThump 18 = .ok (.imul, 1) := by decide +kernel
theorem dX1_addThump_19 : decode cX1_addThump 19 = .ok (.iload_n 2, 1) := by decide +kernel
theorem dX1_addThump_20 : decode cX1_addThump 20 = .ok (.bipush 127, 2) := by decide +kernel
theorem dX1_addThump_22 : decode cX1_addThump 22 = .ok (.iand, 1) := by decide +kernel
theorem dX1_addThump_23 : decode cX1_addThump 23 = .ok (.iadd, 1) := by decide +kernel
theorem dX1_addThump_24 : decode cX1_addThump 24 = .ok (.dup2, 1) := by decide +kernel
theorem dX1_addThump_25 : decode cX1_addThump 25 = .ok (.iaload, 1) := by decide +kernel
theorem dX1_addThump_26 : decode cX1_addThump 26 = .ok (.iconst 1, 1) := by decide +kernel
theorem dX1_addThump_27 : decode cX1_addThump 27 = .ok (.iadd, 1) := by decide +kernel
theorem dX1_addThump_28 : decode cX1_addThump 28 = .ok (.iastore, 1) := by decide +kernel
theorem dX1_addThump_29 : decode cX1_addThump 29 = .ok (.return_, 1) := by decide +kernel
theorem dX1_thumpsIn_0 : decode cX1_thumpsIn 0 = .ok (.iload_n 1, 1) := by decide +kernel
theorem dX1_thumpsIn_1 : decode cX1_thumpsIn 1 = .ok (.ifCond .lt 27, 3) := by decide +kernel
theorem dX1_thumpsIn_4 : decode cX1_thumpsIn 4 = .ok (.iload_n 1, 1) := by decide +kernel
theorem dX1_thumpsIn_5 : decode cX1_thumpsIn 5 = .ok (.bipush 8, 2) := by decide +kernel
theorem dX1_thumpsIn_7 : decode cX1_thumpsIn 7 = .ok (.if_icmp .ge 21, 3) := by decide +kernel
theorem dX1_thumpsIn_10 : decode cX1_thumpsIn 10 = .ok (.aload_n 0, 1) := by decide +kernel
theorem dX1_thumpsIn_11 : decode cX1_thumpsIn 11 = .ok (.getfield 9, 3) := by decide +kernel
theorem dX1_thumpsIn_14 : decode cX1_thumpsIn 14 = .ok (.iload_n 1, 1) := by decide +kernel
theorem dX1_thumpsIn_15 : decode cX1_thumpsIn 15 = .ok (.sipush 128, 3) := by decide +kernel
theorem dX1_thumpsIn_18 : decode cX1_thumpsIn 18 = .ok (.imul, 1) := by decide +kernel
theorem dX1_thumpsIn_19 : decode cX1_thumpsIn 19 = .ok (.iload_n 2, 1) := by decide +kernel
theorem dX1_thumpsIn_20 : decode cX1_thumpsIn 20 = .ok (.bipush 127, 2) := by decide +kernel
theorem dX1_thumpsIn_22 : decode cX1_thumpsIn 22 = .ok (.iand, 1) := by decide +kernel
theorem dX1_thumpsIn_23 : decode cX1_thumpsIn 23 = .ok (.iadd, 1) := by decide +kernel
theorem dX1_thumpsIn_24 : decode cX1_thumpsIn 24 = .ok (.iaload, 1) := by decide +kernel
theorem dX1_thumpsIn_25 : decode cX1_thumpsIn 25 = .ok (.goto 4, 3) := by decide +kernel
theorem dX1_thumpsIn_28 : decode cX1_thumpsIn 28 = .ok (.iconst 0, 1) := by decide +kernel
theorem dX1_thumpsIn_29 : decode cX1_thumpsIn 29 = .ok (.ireturn, 1) := by decide +kernel
theorem dX1_openTick_0 : decode cX1_openTick 0 = .ok (.iconst 0, 1) := by decide +kernel
theorem dX1_openTick_1 : decode cX1_openTick 1 = .ok (.istore_n 2, 1) := by decide +kernel
theorem dX1_openTick_2 : decode cX1_openTick 2 = .ok (.iload_n 2, 1) := by decide +kernel
theorem dX1_openTick_3 : decode cX1_openTick 3 = .ok (.bipush 8, 2) := by decide +kernel
theorem dX1_openTick_5 : decode cX1_openTick 5 = .ok (.if_icmp .ge 25, 3) := by decide +kernel
theorem dX1_openTick_8 : decode cX1_openTick 8 = .ok (.aload_n 0, 1) := by decide +kernel
theorem dX1_openTick_9 : decode cX1_openTick 9 = .ok (.getfield 9, 3) := by decide +kernel
theorem dX1_openTick_12 : decode cX1_openTick 12 = .ok (.iload_n 2, 1) := by decide +kernel
theorem dX1_openTick_13 : decode cX1_openTick 13 = .ok (.sipush 128, 3) := by decide +kernel
theorem dX1_openTick_16 : decode cX1_openTick 16 = .ok (.imul, 1) := by decide +kernel
theorem dX1_openTick_17 : decode cX1_openTick 17 = .ok (.iload_n 1, 1) := by decide +kernel
theorem dX1_openTick_18 : decode cX1_openTick 18 = .ok (.bipush 127, 2) := by decide +kernel
theorem dX1_openTick_20 : decode cX1_openTick 20 = .ok (.iand, 1) := by decide +kernel
theorem dX1_openTick_21 : decode cX1_openTick 21 = .ok (.iadd, 1) := by decide +kernel
theorem dX1_openTick_22 : decode cX1_openTick 22 = .ok (.iconst 0, 1) := by decide +kernel
theorem dX1_openTick_23 : decode cX1_openTick 23 = .ok (.iastore, 1) := by decide +kernel
theorem dX1_openTick_24 : decode cX1_openTick 24 = .ok (.iinc 2 1, 3) := by decide +kernel
theorem dX1_openTick_27 : decode cX1_openTick 27 = .ok (.goto (-25), 3) := by decide +kernel
theorem dX1_openTick_30 : decode cX1_openTick 30 = .ok (.return_, 1) := by decide +kernel
theorem dX2_init_0 : decode cX2_init 0 = .ok (.aload_n 0, 1) := by decide +kernel
theorem dX2_init_1 : decode cX2_init 1 = .ok (.invokespecial 3, 3) := by decide +kernel
theorem dX2_init_4 : decode cX2_init 4 = .ok (.aload_n 0, 1) := by decide +kernel
theorem dX2_init_5 : decode cX2_init 5 = .ok (.bipush 64, 2) := by decide +kernel
theorem dX2_init_7 : decode cX2_init 7 = .ok (.newarray .int, 2) := by decide +kernel
theorem dX2_init_9 : decode cX2_init 9 = .ok (.putfield 9, 3) := by decide +kernel
theorem dX2_init_12 : decode cX2_init 12 = .ok (.aload_n 0, 1) := by decide +kernel
theorem dX2_init_13 : decode cX2_init 13 = .ok (.bipush 64, 2) := by decide +kernel
theorem dX2_init_15 : decode cX2_init 15 = .ok (.newarray .int, 2) := by decide +kernel
theorem dX2_init_17 : decode cX2_init 17 = .ok (.putfield 15, 3) := by decide +kernel
theorem dX2_init_20 : decode cX2_init 20 = .ok (.aload_n 0, 1) := by decide +kernel
theorem dX2_init_21 : decode cX2_init 21 = .ok (.bipush 8, 2) := by decide +kernel
theorem dX2_init_23 : decode cX2_init 23 = .ok (.newarray .int, 2) := by decide +kernel
theorem dX2_init_25 : decode cX2_init 25 = .ok (.putfield 18, 3) := by decide +kernel
theorem dX2_init_28 : decode cX2_init 28 = .ok (.aload_n 0, 1) := by decide +kernel
theorem dX2_init_29 : decode cX2_init 29 = .ok (.invokevirtual 21, 3) := by decide +kernel
theorem dX2_init_32 : decode cX2_init 32 = .ok (.return_, 1) := by decide +kernel
theorem dX2_copyFrom_0 : decode cX2_copyFrom 0 = .ok (.aload_n 0, 1) := by decide +kernel
theorem dX2_copyFrom_1 : decode cX2_copyFrom 1 = .ok (.aload_n 1, 1) := by decide +kernel
theorem dX2_copyFrom_2 : decode cX2_copyFrom 2 = .ok (.getfield 24, 3) := by decide +kernel
theorem dX2_copyFrom_5 : decode cX2_copyFrom 5 = .ok (.putfield 24, 3) := by decide +kernel
theorem dX2_copyFrom_8 : decode cX2_copyFrom 8 = .ok (.aload_n 0, 1) := by decide +kernel
theorem dX2_copyFrom_9 : decode cX2_copyFrom 9 = .ok (.aload_n 1, 1) := by decide +kernel
theorem dX2_copyFrom_10 : decode cX2_copyFrom 10 = .ok (.getfield 28, 3) := by decide +kernel
theorem dX2_copyFrom_13 : decode cX2_copyFrom 13 = .ok (.putfield 28, 3) := by decide +kernel
theorem dX2_copyFrom_16 : decode cX2_copyFrom 16 = .ok (.aload_n 1, 1) := by decide +kernel
theorem dX2_copyFrom_17 : decode cX2_copyFrom 17 = .ok (.getfield 9, 3) := by decide +kernel
theorem dX2_copyFrom_20 : decode cX2_copyFrom 20 = .ok (.iconst 0, 1) := by decide +kernel
theorem dX2_copyFrom_21 : decode cX2_copyFrom 21 = .ok (.aload_n 0, 1) := by decide +kernel
theorem dX2_copyFrom_22 : decode cX2_copyFrom 22 = .ok (.getfield 9, 3) := by decide +kernel
theorem dX2_copyFrom_25 : decode cX2_copyFrom 25 = .ok (.iconst 0, 1) := by decide +kernel
theorem dX2_copyFrom_26 : decode cX2_copyFrom 26 = .ok (.bipush 64, 2) := by decide +kernel
theorem dX2_copyFrom_28 : decode cX2_copyFrom 28 = .ok (.invokestatic 31, 3) := by decide +kernel
theorem dX2_copyFrom_31 : decode cX2_copyFrom 31 = .ok (.aload_n 1, 1) := by decide +kernel
theorem dX2_copyFrom_32 : decode cX2_copyFrom 32 = .ok (.getfield 15, 3) := by decide +kernel
theorem dX2_copyFrom_35 : decode cX2_copyFrom 35 = .ok (.iconst 0, 1) := by decide +kernel
theorem dX2_copyFrom_36 : decode cX2_copyFrom 36 = .ok (.aload_n 0, 1) := by decide +kernel
theorem dX2_copyFrom_37 : decode cX2_copyFrom 37 = .ok (.getfield 15, 3) := by decide +kernel
theorem dX2_copyFrom_40 : decode cX2_copyFrom 40 = .ok (.iconst 0, 1) := by decide +kernel
theorem dX2_copyFrom_41 : decode cX2_copyFrom 41 = .ok (.bipush 64, 2) := by decide +kernel
theorem dX2_copyFrom_43 : decode cX2_copyFrom 43 = .ok (.invokestatic 31, 3) := by decide +kernel
theorem dX2_copyFrom_46 : decode cX2_copyFrom 46 = .ok (.return_, 1) := by decide +kernel
theorem dX2_has_0 : decode cX2_has 0 = .ok (.iload_n 1, 1) := by decide +kernel
theorem dX2_has_1 : decode cX2_has 1 = .ok (.ifCond .lt 15, 3) := by decide +kernel
theorem dX2_has_4 : decode cX2_has 4 = .ok (.iload_n 1, 1) := by decide +kernel
theorem dX2_has_5 : decode cX2_has 5 = .ok (.aload_n 0, 1) := by decide +kernel
theorem dX2_has_6 : decode cX2_has 6 = .ok (.getfield 24, 3) := by decide +kernel
theorem dX2_has_9 : decode cX2_has 9 = .ok (.if_icmp .ge 7, 3) := by decide +kernel
theorem dX2_has_12 : decode cX2_has 12 = .ok (.iconst 1, 1) := by decide +kernel
theorem dX2_has_13 : decode cX2_has 13 = .ok (.goto 4, 3) := by decide +kernel
theorem dX2_has_16 : decode cX2_has 16 = .ok (.iconst 0, 1) := by decide +kernel
theorem dX2_has_17 : decode cX2_has 17 = .ok (.ireturn, 1) := by decide +kernel
theorem dX2_digChamber_0 : decode cX2_digChamber 0 = .ok (.aload_n 0, 1) := by decide +kernel
theorem dX2_digChamber_1 : decode cX2_digChamber 1 = .ok (.getfield 24, 3) := by decide +kernel
theorem dX2_digChamber_4 : decode cX2_digChamber 4 = .ok (.bipush 8, 2) := by decide +kernel
theorem dX2_digChamber_6 : decode cX2_digChamber 6 = .ok (.if_icmp .lt 7, 3) := by decide +kernel
theorem dX2_digChamber_9 : decode cX2_digChamber 9 = .ok (.getstatic 37, 3) := by decide +kernel
theorem dX2_digChamber_12 : decode cX2_digChamber 12 = .ok (.areturn, 1) := by decide +kernel
theorem dX2_digChamber_13 : decode cX2_digChamber 13 = .ok (.aload_n 0, 1) := by decide +kernel
theorem dX2_digChamber_14 : decode cX2_digChamber 14 = .ok (.dup, 1) := by decide +kernel
theorem dX2_digChamber_15 : decode cX2_digChamber 15 = .ok (.getfield 24, 3) := by decide +kernel
theorem dX2_digChamber_18 : decode cX2_digChamber 18 = .ok (.iconst 1, 1) := by decide +kernel
theorem dX2_digChamber_19 : decode cX2_digChamber 19 = .ok (.iadd, 1) := by decide +kernel
theorem dX2_digChamber_20 : decode cX2_digChamber 20 = .ok (.putfield 24, 3) := by decide +kernel
theorem dX2_digChamber_23 : decode cX2_digChamber 23 = .ok (.getstatic 43, 3) := by decide +kernel
theorem dX2_digChamber_26 : decode cX2_digChamber 26 = .ok (.areturn, 1) := by decide +kernel
theorem dX2_digTunnel_0 : decode cX2_digTunnel 0 = .ok (.aload_n 0, 1) := by decide +kernel
theorem dX2_digTunnel_1 : decode cX2_digTunnel 1 = .ok (.iload_n 1, 1) := by decide +kernel
theorem dX2_digTunnel_2 : decode cX2_digTunnel 2 = .ok (.invokevirtual 46, 3) := by decide +kernel
theorem dX2_digTunnel_5 : decode cX2_digTunnel 5 = .ok (.ifCond .eq 11, 3) := by decide +kernel
theorem dX2_digTunnel_8 : decode cX2_digTunnel 8 = .ok (.aload_n 0, 1) := by decide +kernel
theorem dX2_digTunnel_9 : decode cX2_digTunnel 9 = .ok (.iload_n 2, 1) := by decide +kernel
theorem dX2_digTunnel_10 : decode cX2_digTunnel 10 = .ok (.invokevirtual 46, 3) := by decide +kernel
theorem dX2_digTunnel_13 : decode cX2_digTunnel 13 = .ok (.ifCond .ne 7, 3) := by decide +kernel
theorem dX2_digTunnel_16 : decode cX2_digTunnel 16 = .ok (.getstatic 50, 3) := by decide +kernel
theorem dX2_digTunnel_19 : decode cX2_digTunnel 19 = .ok (.areturn, 1) := by decide +kernel
theorem dX2_digTunnel_20 : decode cX2_digTunnel 20 = .ok (.iload_n 1, 1) := by decide +kernel
theorem dX2_digTunnel_21 : decode cX2_digTunnel 21 = .ok (.iload_n 2, 1) := by decide +kernel
theorem dX2_digTunnel_22 : decode cX2_digTunnel 22 = .ok (.if_icmp .eq 14, 3) := by decide +kernel
theorem dX2_digTunnel_25 : decode cX2_digTunnel 25 = .ok (.iload_n 3, 1) := by decide +kernel
theorem dX2_digTunnel_26 : decode cX2_digTunnel 26 = .ok (.iconst 1, 1) := by decide +kernel
theorem dX2_digTunnel_27 : decode cX2_digTunnel 27 = .ok (.if_icmp .lt 9, 3) := by decide +kernel
theorem dX2_digTunnel_30 : decode cX2_digTunnel 30 = .ok (.iload_n 3, 1) := by decide +kernel
theorem dX2_digTunnel_31 : decode cX2_digTunnel 31 = .ok (.bipush 9, 2) := by decide +kernel
theorem dX2_digTunnel_33 : decode cX2_digTunnel 33 = .ok (.if_icmp .le 7, 3) := by decide +kernel
theorem dX2_digTunnel_36 : decode cX2_digTunnel 36 = .ok (.getstatic 53, 3) := by decide +kernel
theorem dX2_digTunnel_39 : decode cX2_digTunnel 39 = .ok (.areturn, 1) := by decide +kernel
theorem dX2_digTunnel_40 : decode cX2_digTunnel 40 = .ok (.aload_n 0, 1) := by decide +kernel
theorem dX2_digTunnel_41 : decode cX2_digTunnel 41 = .ok (.iload_n 1, 1) := by decide +kernel
theorem dX2_digTunnel_42 : decode cX2_digTunnel 42 = .ok (.iload_n 2, 1) := by decide +kernel
theorem dX2_digTunnel_43 : decode cX2_digTunnel 43 = .ok (.invokevirtual 56, 3) := by decide +kernel
theorem dX2_digTunnel_46 : decode cX2_digTunnel 46 = .ok (.ifCond .eq 7, 3) := by decide +kernel
theorem dX2_digTunnel_49 : decode cX2_digTunnel 49 = .ok (.getstatic 37, 3) := by decide +kernel
theorem dX2_digTunnel_52 : decode cX2_digTunnel 52 = .ok (.areturn, 1) := by decide +kernel
theorem dX2_digTunnel_53 : decode cX2_digTunnel 53 = .ok (.aload_n 0, 1) := by decide +kernel
theorem dX2_digTunnel_54 : decode cX2_digTunnel 54 = .ok (.iload_n 1, 1) := by decide +kernel
theorem dX2_digTunnel_55 : decode cX2_digTunnel 55 = .ok (.iload_n 2, 1) := by decide +kernel
theorem dX2_digTunnel_56 : decode cX2_digTunnel 56 = .ok (.iload_n 3, 1) := by decide +kernel
theorem dX2_digTunnel_57 : decode cX2_digTunnel 57 = .ok (.invokevirtual 60, 3) := by decide +kernel
theorem dX2_digTunnel_60 : decode cX2_digTunnel 60 = .ok (.aload_n 0, 1) := by decide +kernel
theorem dX2_digTunnel_61 : decode cX2_digTunnel 61 = .ok (.dup, 1) := by decide +kernel
theorem dX2_digTunnel_62 : decode cX2_digTunnel 62 = .ok (.getfield 28, 3) := by decide +kernel
theorem dX2_digTunnel_65 : decode cX2_digTunnel 65 = .ok (.iconst 1, 1) := by decide +kernel
theorem dX2_digTunnel_66 : decode cX2_digTunnel 66 = .ok (.iadd, 1) := by decide +kernel
theorem dX2_digTunnel_67 : decode cX2_digTunnel 67 = .ok (.putfield 28, 3) := by decide +kernel
theorem dX2_digTunnel_70 : decode cX2_digTunnel 70 = .ok (.getstatic 43, 3) := by decide +kernel
theorem dX2_digTunnel_73 : decode cX2_digTunnel 73 = .ok (.areturn, 1) := by decide +kernel
theorem dX2_fillTunnel_0 : decode cX2_fillTunnel 0 = .ok (.aload_n 0, 1) := by decide +kernel
theorem dX2_fillTunnel_1 : decode cX2_fillTunnel 1 = .ok (.iload_n 1, 1) := by decide +kernel
theorem dX2_fillTunnel_2 : decode cX2_fillTunnel 2 = .ok (.invokevirtual 46, 3) := by decide +kernel
theorem dX2_fillTunnel_5 : decode cX2_fillTunnel 5 = .ok (.ifCond .eq 11, 3) := by decide +kernel
theorem dX2_fillTunnel_8 : decode cX2_fillTunnel 8 = .ok (.aload_n 0, 1) := by decide +kernel
theorem dX2_fillTunnel_9 : decode cX2_fillTunnel 9 = .ok (.iload_n 2, 1) := by decide +kernel
theorem dX2_fillTunnel_10 : decode cX2_fillTunnel 10 = .ok (.invokevirtual 46, 3) := by decide +kernel
theorem dX2_fillTunnel_13 : decode cX2_fillTunnel 13 = .ok (.ifCond .ne 7, 3) := by decide +kernel
theorem dX2_fillTunnel_16 : decode cX2_fillTunnel 16 = .ok (.getstatic 50, 3) := by decide +kernel
theorem dX2_fillTunnel_19 : decode cX2_fillTunnel 19 = .ok (.areturn, 1) := by decide +kernel
theorem dX2_fillTunnel_20 : decode cX2_fillTunnel 20 = .ok (.aload_n 0, 1) := by decide +kernel
theorem dX2_fillTunnel_21 : decode cX2_fillTunnel 21 = .ok (.iload_n 1, 1) := by decide +kernel
theorem dX2_fillTunnel_22 : decode cX2_fillTunnel 22 = .ok (.iload_n 2, 1) := by decide +kernel
theorem dX2_fillTunnel_23 : decode cX2_fillTunnel 23 = .ok (.invokevirtual 56, 3) := by decide +kernel
theorem dX2_fillTunnel_26 : decode cX2_fillTunnel 26 = .ok (.ifCond .ne 7, 3) := by decide +kernel
theorem dX2_fillTunnel_29 : decode cX2_fillTunnel 29 = .ok (.getstatic 64, 3) := by decide +kernel
theorem dX2_fillTunnel_32 : decode cX2_fillTunnel 32 = .ok (.areturn, 1) := by decide +kernel
theorem dX2_fillTunnel_33 : decode cX2_fillTunnel 33 = .ok (.aload_n 0, 1) := by decide +kernel
theorem dX2_fillTunnel_34 : decode cX2_fillTunnel 34 = .ok (.iload_n 1, 1) := by decide +kernel
theorem dX2_fillTunnel_35 : decode cX2_fillTunnel 35 = .ok (.iload_n 2, 1) := by decide +kernel
theorem dX2_fillTunnel_36 : decode cX2_fillTunnel 36 = .ok (.iconst 0, 1) := by decide +kernel
theorem dX2_fillTunnel_37 : decode cX2_fillTunnel 37 = .ok (.invokevirtual 60, 3) := by decide +kernel
theorem dX2_fillTunnel_40 : decode cX2_fillTunnel 40 = .ok (.aload_n 0, 1) := by decide +kernel
theorem dX2_fillTunnel_41 : decode cX2_fillTunnel 41 = .ok (.dup, 1) := by decide +kernel
theorem dX2_fillTunnel_42 : decode cX2_fillTunnel 42 = .ok (.getfield 28, 3) := by decide +kernel
theorem dX2_fillTunnel_45 : decode cX2_fillTunnel 45 = .ok (.iconst 1, 1) := by decide +kernel
theorem dX2_fillTunnel_46 : decode cX2_fillTunnel 46 = .ok (.isub, 1) := by decide +kernel
theorem dX2_fillTunnel_47 : decode cX2_fillTunnel 47 = .ok (.putfield 28, 3) := by decide +kernel
theorem dX2_fillTunnel_50 : decode cX2_fillTunnel 50 = .ok (.getstatic 43, 3) := by decide +kernel
theorem dX2_fillTunnel_53 : decode cX2_fillTunnel 53 = .ok (.areturn, 1) := by decide +kernel
theorem dX2_join_0 : decode cX2_join 0 = .ok (.aload_n 0, 1) := by decide +kernel
theorem dX2_join_1 : decode cX2_join 1 = .ok (.iload_n 1, 1) := by decide +kernel
theorem dX2_join_2 : decode cX2_join 2 = .ok (.invokevirtual 46, 3) := by decide +kernel
theorem dX2_join_5 : decode cX2_join 5 = .ok (.ifCond .eq 39, 3) := by decide +kernel
theorem dX2_join_8 : decode cX2_join 8 = .ok (.aload_n 0, 1) := by decide +kernel
theorem dX2_join_9 : decode cX2_join 9 = .ok (.iload_n 2, 1) := by decide +kernel
theorem dX2_join_10 : decode cX2_join 10 = .ok (.invokevirtual 46, 3) := by decide +kernel
theorem dX2_join_13 : decode cX2_join 13 = .ok (.ifCond .eq 31, 3) := by decide +kernel
theorem dX2_join_16 : decode cX2_join 16 = .ok (.aload_n 0, 1) := by decide +kernel
theorem dX2_join_17 : decode cX2_join 17 = .ok (.getfield 9, 3) := by decide +kernel
theorem dX2_join_20 : decode cX2_join 20 = .ok (.iload_n 1, 1) := by decide +kernel
theorem dX2_join_21 : decode cX2_join 21 = .ok (.bipush 8, 2) := by decide +kernel
theorem dX2_join_23 : decode cX2_join 23 = .ok (.imul, 1) := by decide +kernel
theorem dX2_join_24 : decode cX2_join 24 = .ok (.iload_n 2, 1) := by decide +kernel
theorem dX2_join_25 : decode cX2_join 25 = .ok (.iadd, 1) := by decide +kernel
theorem dX2_join_26 : decode cX2_join 26 = .ok (.iload_n 3, 1) := by decide +kernel
theorem dX2_join_27 : decode cX2_join 27 = .ok (.iastore, 1) := by decide +kernel
theorem dX2_join_28 : decode cX2_join 28 = .ok (.aload_n 0, 1) := by decide +kernel
theorem dX2_join_29 : decode cX2_join 29 = .ok (.getfield 9, 3) := by decide +kernel
theorem dX2_join_32 : decode cX2_join 32 = .ok (.iload_n 2, 1) := by decide +kernel
theorem dX2_join_33 : decode cX2_join 33 = .ok (.bipush 8, 2) := by decide +kernel
theorem dX2_join_35 : decode cX2_join 35 = .ok (.imul, 1) := by decide +kernel
theorem dX2_join_36 : decode cX2_join 36 = .ok (.iload_n 1, 1) := by decide +kernel
theorem dX2_join_37 : decode cX2_join 37 = .ok (.iadd, 1) := by decide +kernel
theorem dX2_join_38 : decode cX2_join 38 = .ok (.iload_n 3, 1) := by decide +kernel
theorem dX2_join_39 : decode cX2_join 39 = .ok (.iastore, 1) := by decide +kernel
theorem dX2_join_40 : decode cX2_join 40 = .ok (.aload_n 0, 1) := by decide +kernel
theorem dX2_join_41 : decode cX2_join 41 = .ok (.invokevirtual 21, 3) := by decide +kernel
theorem dX2_join_44 : decode cX2_join 44 = .ok (.return_, 1) := by decide +kernel
theorem dX2_delayOfTunnel_0 : decode cX2_delayOfTunnel 0 = .ok (.aload_n 0, 1) := by decide +kernel
theorem dX2_delayOfTunnel_1 : decode cX2_delayOfTunnel 1 = .ok (.iload_n 1, 1) := by decide +kernel
theorem dX2_delayOfTunnel_2 : decode cX2_delayOfTunnel 2 = .ok (.invokevirtual 46, 3) := by decide +kernel
theorem dX2_delayOfTunnel_5 : decode cX2_delayOfTunnel 5 = .ok (.ifCond .eq 25, 3) := by decide +kernel
theorem dX2_delayOfTunnel_8 : decode cX2_delayOfTunnel 8 = .ok (.aload_n 0, 1) := by decide +kernel
theorem dX2_delayOfTunnel_9 : decode cX2_delayOfTunnel 9 = .ok (.iload_n 2, 1) := by decide +kernel
theorem dX2_delayOfTunnel_10 : decode cX2_delayOfTunnel 10 = .ok (.invokevirtual 46, 3) := by decide +kernel
theorem dX2_delayOfTunnel_13 : decode cX2_delayOfTunnel 13 = .ok (.ifCond .eq 17, 3) := by decide +kernel
theorem dX2_delayOfTunnel_16 : decode cX2_delayOfTunnel 16 = .ok (.aload_n 0, 1) := by decide +kernel
theorem dX2_delayOfTunnel_17 : decode cX2_delayOfTunnel 17 = .ok (.getfield 9, 3) := by decide +kernel
theorem dX2_delayOfTunnel_20 : decode cX2_delayOfTunnel 20 = .ok (.iload_n 1, 1) := by decide +kernel
theorem dX2_delayOfTunnel_21 : decode cX2_delayOfTunnel 21 = .ok (.bipush 8, 2) := by decide +kernel
theorem dX2_delayOfTunnel_23 : decode cX2_delayOfTunnel 23 = .ok (.imul, 1) := by decide +kernel
theorem dX2_delayOfTunnel_24 : decode cX2_delayOfTunnel 24 = .ok (.iload_n 2, 1) := by decide +kernel
theorem dX2_delayOfTunnel_25 : decode cX2_delayOfTunnel 25 = .ok (.iadd, 1) := by decide +kernel
theorem dX2_delayOfTunnel_26 : decode cX2_delayOfTunnel 26 = .ok (.iaload, 1) := by decide +kernel
theorem dX2_delayOfTunnel_27 : decode cX2_delayOfTunnel 27 = .ok (.goto 4, 3) := by decide +kernel
theorem dX2_delayOfTunnel_30 : decode cX2_delayOfTunnel 30 = .ok (.iconst 0, 1) := by decide +kernel
theorem dX2_delayOfTunnel_31 : decode cX2_delayOfTunnel 31 = .ok (.ireturn, 1) := by decide +kernel
theorem dX2_delayOfWay_0 : decode cX2_delayOfWay 0 = .ok (.aload_n 0, 1) := by decide +kernel
theorem dX2_delayOfWay_1 : decode cX2_delayOfWay 1 = .ok (.iload_n 1, 1) := by decide +kernel
theorem dX2_delayOfWay_2 : decode cX2_delayOfWay 2 = .ok (.invokevirtual 46, 3) := by decide +kernel
theorem dX2_delayOfWay_5 : decode cX2_delayOfWay 5 = .ok (.ifCond .eq 25, 3) := by decide +kernel
theorem dX2_delayOfWay_8 : decode cX2_delayOfWay 8 = .ok (.aload_n 0, 1) := by decide +kernel
theorem dX2_delayOfWay_9 : decode cX2_delayOfWay 9 = .ok (.iload_n 2, 1) := by decide +kernel
theorem dX2_delayOfWay_10 : decode cX2_delayOfWay 10 = .ok (.invokevirtual 46, 3) := by decide +kernel
theorem dX2_delayOfWay_13 : decode cX2_delayOfWay 13 = .ok (.ifCond .eq 17, 3) := by decide +kernel
theorem dX2_delayOfWay_16 : decode cX2_delayOfWay 16 = .ok (.aload_n 0, 1) := by decide +kernel
theorem dX2_delayOfWay_17 : decode cX2_delayOfWay 17 = .ok (.getfield 15, 3) := by decide +kernel
theorem dX2_delayOfWay_20 : decode cX2_delayOfWay 20 = .ok (.iload_n 1, 1) := by decide +kernel
theorem dX2_delayOfWay_21 : decode cX2_delayOfWay 21 = .ok (.bipush 8, 2) := by decide +kernel
theorem dX2_delayOfWay_23 : decode cX2_delayOfWay 23 = .ok (.imul, 1) := by decide +kernel
theorem dX2_delayOfWay_24 : decode cX2_delayOfWay 24 = .ok (.iload_n 2, 1) := by decide +kernel
theorem dX2_delayOfWay_25 : decode cX2_delayOfWay 25 = .ok (.iadd, 1) := by decide +kernel
theorem dX2_delayOfWay_26 : decode cX2_delayOfWay 26 = .ok (.iaload, 1) := by decide +kernel
theorem dX2_delayOfWay_27 : decode cX2_delayOfWay 27 = .ok (.goto 6, 3) := by decide +kernel
theorem dX2_delayOfWay_30 : decode cX2_delayOfWay 30 = .ok (.sipush 1000, 3) := by decide +kernel
theorem dX2_delayOfWay_33 : decode cX2_delayOfWay 33 = .ok (.ireturn, 1) := by decide +kernel
theorem dX2_improveAllPairs_0 : decode cX2_improveAllPairs 0 = .ok (.iconst 0, 1) := by decide +kernel
theorem dX2_improveAllPairs_1 : decode cX2_improveAllPairs 1 = .ok (.istore_n 1, 1) := by decide +kernel
theorem dX2_improveAllPairs_2 : decode cX2_improveAllPairs 2 = .ok (.iload_n 1, 1) := by decide +kernel
theorem dX2_improveAllPairs_3 : decode cX2_improveAllPairs 3 = .ok (.bipush 64, 2) := by decide +kernel
theorem dX2_improveAllPairs_5 : decode cX2_improveAllPairs 5 = .ok (.if_icmp .ge 36, 3) := by decide +kernel
theorem dX2_improveAllPairs_8 : decode cX2_improveAllPairs 8 = .ok (.aload_n 0, 1) := by decide +kernel
theorem dX2_improveAllPairs_9 : decode cX2_improveAllPairs 9 = .ok (.getfield 15, 3) := by decide +kernel
theorem dX2_improveAllPairs_12 : decode cX2_improveAllPairs 12 = .ok (.iload_n 1, 1) := by decide +kernel
theorem dX2_improveAllPairs_13 : decode cX2_improveAllPairs 13 = .ok (.aload_n 0, 1) := by decide +kernel
theorem dX2_improveAllPairs_14 : decode cX2_improveAllPairs 14 = .ok (.getfield 9, 3) := by decide +kernel
theorem dX2_improveAllPairs_17 : decode cX2_improveAllPairs 17 = .ok (.iload_n 1, 1) := by decide +kernel
theorem dX2_improveAllPairs_18 : decode cX2_improveAllPairs 18 = .ok (.iaload, 1) := by decide +kernel
theorem dX2_improveAllPairs_19 : decode cX2_improveAllPairs 19 = .ok (.ifCond .ne 9, 3) := by decide +kernel
theorem dX2_improveAllPairs_22 : decode cX2_improveAllPairs 22 = .ok (.sipush 1000, 3) := by decide +kernel
theorem dX2_improveAllPairs_25 : decode cX2_improveAllPairs 25 = .ok (.goto 9, 3) := by decide +kernel
theorem dX2_improveAllPairs_28 : decode cX2_improveAllPairs 28 = .ok (.aload_n 0, 1) := by decide +kernel
theorem dX2_improveAllPairs_29 : decode cX2_improveAllPairs 29 = .ok (.getfield 9, 3) := by decide +kernel
theorem dX2_improveAllPairs_32 : decode cX2_improveAllPairs 32 = .ok (.iload_n 1, 1) := by decide +kernel
theorem dX2_improveAllPairs_33 : decode cX2_improveAllPairs 33 = .ok (.iaload, 1) := by decide +kernel
theorem dX2_improveAllPairs_34 : decode cX2_improveAllPairs 34 = .ok (.iastore, 1) := by decide +kernel
theorem dX2_improveAllPairs_35 : decode cX2_improveAllPairs 35 = .ok (.iinc 1 1, 3) := by decide +kernel
theorem dX2_improveAllPairs_38 : decode cX2_improveAllPairs 38 = .ok (.goto (-36), 3) := by decide +kernel
theorem dX2_improveAllPairs_41 : decode cX2_improveAllPairs 41 = .ok (.iconst 0, 1) := by decide +kernel
theorem dX2_improveAllPairs_42 : decode cX2_improveAllPairs 42 = .ok (.istore_n 1, 1) := by decide +kernel
theorem dX2_improveAllPairs_43 : decode cX2_improveAllPairs 43 = .ok (.iload_n 1, 1) := by decide +kernel
theorem dX2_improveAllPairs_44 : decode cX2_improveAllPairs 44 = .ok (.bipush 8, 2) := by decide +kernel
theorem dX2_improveAllPairs_46 : decode cX2_improveAllPairs 46 = .ok (.if_icmp .ge 21, 3) := by decide +kernel
theorem dX2_improveAllPairs_49 : decode cX2_improveAllPairs 49 = .ok (.aload_n 0, 1) := by decide +kernel
theorem dX2_improveAllPairs_50 : decode cX2_improveAllPairs 50 = .ok (.getfield 15, 3) := by decide +kernel
theorem dX2_improveAllPairs_53 : decode cX2_improveAllPairs 53 = .ok (.iload_n 1, 1) := by decide +kernel
theorem dX2_improveAllPairs_54 : decode cX2_improveAllPairs 54 = .ok (.bipush 8, 2) := by decide +kernel
theorem dX2_improveAllPairs_56 : decode cX2_improveAllPairs 56 = .ok (.imul, 1) := by decide +kernel
theorem dX2_improveAllPairs_57 : decode cX2_improveAllPairs 57 = .ok (.iload_n 1, 1) := by decide +kernel
theorem dX2_improveAllPairs_58 : decode cX2_improveAllPairs 58 = .ok (.iadd, 1) := by decide +kernel
theorem dX2_improveAllPairs_59 : decode cX2_improveAllPairs 59 = .ok (.iconst 0, 1) := by decide +kernel
theorem dX2_improveAllPairs_60 : decode cX2_improveAllPairs 60 = .ok (.iastore, 1) := by decide +kernel
theorem dX2_improveAllPairs_61 : decode cX2_improveAllPairs 61 = .ok (.iinc 1 1, 3) := by decide +kernel
theorem dX2_improveAllPairs_64 : decode cX2_improveAllPairs 64 = .ok (.goto (-21), 3) := by decide +kernel
theorem dX2_improveAllPairs_67 : decode cX2_improveAllPairs 67 = .ok (.iconst 0, 1) := by decide +kernel
theorem dX2_improveAllPairs_68 : decode cX2_improveAllPairs 68 = .ok (.istore_n 1, 1) := by decide +kernel
theorem dX2_improveAllPairs_69 : decode cX2_improveAllPairs 69 = .ok (.iload_n 1, 1) := by decide +kernel
theorem dX2_improveAllPairs_70 : decode cX2_improveAllPairs 70 = .ok (.bipush 8, 2) := by decide +kernel
theorem dX2_improveAllPairs_72 : decode cX2_improveAllPairs 72 = .ok (.if_icmp .ge 29, 3) := by decide +kernel
theorem dX2_improveAllPairs_75 : decode cX2_improveAllPairs 75 = .ok (.iconst 0, 1) := by decide +kernel
theorem dX2_improveAllPairs_76 : decode cX2_improveAllPairs 76 = .ok (.istore_n 2, 1) := by decide +kernel
theorem dX2_improveAllPairs_77 : decode cX2_improveAllPairs 77 = .ok (.iload_n 2, 1) := by decide +kernel
theorem dX2_improveAllPairs_78 : decode cX2_improveAllPairs 78 = .ok (.bipush 8, 2) := by decide +kernel
theorem dX2_improveAllPairs_80 : decode cX2_improveAllPairs 80 = .ok (.if_icmp .ge 15, 3) := by decide +kernel
theorem dX2_improveAllPairs_83 : decode cX2_improveAllPairs 83 = .ok (.aload_n 0, 1) := by decide +kernel
theorem dX2_improveAllPairs_84 : decode cX2_improveAllPairs 84 = .ok (.iload_n 2, 1) := by decide +kernel
theorem dX2_improveAllPairs_85 : decode cX2_improveAllPairs 85 = .ok (.iload_n 1, 1) := by decide +kernel
theorem dX2_improveAllPairs_86 : decode cX2_improveAllPairs 86 = .ok (.invokevirtual 67, 3) := by decide +kernel
theorem dX2_improveAllPairs_89 : decode cX2_improveAllPairs 89 = .ok (.iinc 2 1, 3) := by decide +kernel
theorem dX2_improveAllPairs_92 : decode cX2_improveAllPairs 92 = .ok (.goto (-15), 3) := by decide +kernel
theorem dX2_improveAllPairs_95 : decode cX2_improveAllPairs 95 = .ok (.iinc 1 1, 3) := by decide +kernel
theorem dX2_improveAllPairs_98 : decode cX2_improveAllPairs 98 = .ok (.goto (-29), 3) := by decide +kernel
theorem dX2_improveAllPairs_101 : decode cX2_improveAllPairs 101 = .ok (.return_, 1) := by decide +kernel
theorem dX2_improveFrom_0 : decode cX2_improveFrom 0 = .ok (.aload_n 0, 1) := by decide +kernel
theorem dX2_improveFrom_1 : decode cX2_improveFrom 1 = .ok (.getfield 15, 3) := by decide +kernel
theorem dX2_improveFrom_4 : decode cX2_improveFrom 4 = .ok (.iload_n 1, 1) := by decide +kernel
theorem dX2_improveFrom_5 : decode cX2_improveFrom 5 = .ok (.bipush 8, 2) := by decide +kernel
theorem dX2_improveFrom_7 : decode cX2_improveFrom 7 = .ok (.imul, 1) := by decide +kernel
theorem dX2_improveFrom_8 : decode cX2_improveFrom 8 = .ok (.iload_n 2, 1) := by decide +kernel
theorem dX2_improveFrom_9 : decode cX2_improveFrom 9 = .ok (.iadd, 1) := by decide +kernel
theorem dX2_improveFrom_10 : decode cX2_improveFrom 10 = .ok (.iaload, 1) := by decide +kernel
theorem dX2_improveFrom_11 : decode cX2_improveFrom 11 = .ok (.istore_n 3, 1) := by decide +kernel
theorem dX2_improveFrom_12 : decode cX2_improveFrom 12 = .ok (.iconst 0, 1) := by decide +kernel
theorem dX2_improveFrom_13 : decode cX2_improveFrom 13 = .ok (.istore 4, 2) := by decide +kernel
theorem dX2_improveFrom_15 : decode cX2_improveFrom 15 = .ok (.iload 4, 2) := by decide +kernel
theorem dX2_improveFrom_17 : decode cX2_improveFrom 17 = .ok (.bipush 8, 2) := by decide +kernel
theorem dX2_improveFrom_19 : decode cX2_improveFrom 19 = .ok (.if_icmp .ge 56, 3) := by decide +kernel
theorem dX2_improveFrom_22 : decode cX2_improveFrom 22 = .ok (.iload_n 3, 1) := by decide +kernel
theorem dX2_improveFrom_23 : decode cX2_improveFrom 23 = .ok (.aload_n 0, 1) := by decide +kernel
theorem dX2_improveFrom_24 : decode cX2_improveFrom 24 = .ok (.getfield 15, 3) := by decide +kernel
theorem dX2_improveFrom_27 : decode cX2_improveFrom 27 = .ok (.iload_n 2, 1) := by decide +kernel
theorem dX2_improveFrom_28 : decode cX2_improveFrom 28 = .ok (.bipush 8, 2) := by decide +kernel
theorem dX2_improveFrom_30 : decode cX2_improveFrom 30 = .ok (.imul, 1) := by decide +kernel
theorem dX2_improveFrom_31 : decode cX2_improveFrom 31 = .ok (.iload 4, 2) := by decide +kernel
theorem dX2_improveFrom_33 : decode cX2_improveFrom 33 = .ok (.iadd, 1) := by decide +kernel
theorem dX2_improveFrom_34 : decode cX2_improveFrom 34 = .ok (.iaload, 1) := by decide +kernel
theorem dX2_improveFrom_35 : decode cX2_improveFrom 35 = .ok (.iadd, 1) := by decide +kernel
theorem dX2_improveFrom_36 : decode cX2_improveFrom 36 = .ok (.istore 5, 2) := by decide +kernel
theorem dX2_improveFrom_38 : decode cX2_improveFrom 38 = .ok (.iload 5, 2) := by decide +kernel
theorem dX2_improveFrom_40 : decode cX2_improveFrom 40 = .ok (.aload_n 0, 1) := by decide +kernel
theorem dX2_improveFrom_41 : decode cX2_improveFrom 41 = .ok (.getfield 15, 3) := by decide +kernel
theorem dX2_improveFrom_44 : decode cX2_improveFrom 44 = .ok (.iload_n 1, 1) := by decide +kernel
theorem dX2_improveFrom_45 : decode cX2_improveFrom 45 = .ok (.bipush 8, 2) := by decide +kernel
theorem dX2_improveFrom_47 : decode cX2_improveFrom 47 = .ok (.imul, 1) := by decide +kernel
theorem dX2_improveFrom_48 : decode cX2_improveFrom 48 = .ok (.iload 4, 2) := by decide +kernel
theorem dX2_improveFrom_50 : decode cX2_improveFrom 50 = .ok (.iadd, 1) := by decide +kernel
theorem dX2_improveFrom_51 : decode cX2_improveFrom 51 = .ok (.iaload, 1) := by decide +kernel
theorem dX2_improveFrom_52 : decode cX2_improveFrom 52 = .ok (.if_icmp .ge 17, 3) := by decide +kernel
theorem dX2_improveFrom_55 : decode cX2_improveFrom 55 = .ok (.aload_n 0, 1) := by decide +kernel
theorem dX2_improveFrom_56 : decode cX2_improveFrom 56 = .ok (.getfield 15, 3) := by decide +kernel
theorem dX2_improveFrom_59 : decode cX2_improveFrom 59 = .ok (.iload_n 1, 1) := by decide +kernel
theorem dX2_improveFrom_60 : decode cX2_improveFrom 60 = .ok (.bipush 8, 2) := by decide +kernel
theorem dX2_improveFrom_62 : decode cX2_improveFrom 62 = .ok (.imul, 1) := by decide +kernel
theorem dX2_improveFrom_63 : decode cX2_improveFrom 63 = .ok (.iload 4, 2) := by decide +kernel
theorem dX2_improveFrom_65 : decode cX2_improveFrom 65 = .ok (.iadd, 1) := by decide +kernel
theorem dX2_improveFrom_66 : decode cX2_improveFrom 66 = .ok (.iload 5, 2) := by decide +kernel
theorem dX2_improveFrom_68 : decode cX2_improveFrom 68 = .ok (.iastore, 1) := by decide +kernel
theorem dX2_improveFrom_69 : decode cX2_improveFrom 69 = .ok (.iinc 4 1, 3) := by decide +kernel
theorem dX2_improveFrom_72 : decode cX2_improveFrom 72 = .ok (.goto (-57), 3) := by decide +kernel
theorem dX2_improveFrom_75 : decode cX2_improveFrom 75 = .ok (.return_, 1) := by decide +kernel
theorem dX2_searchWay_0 : decode cX2_searchWay 0 = .ok (.aload_n 0, 1) := by decide +kernel
theorem dX2_searchWay_1 : decode cX2_searchWay 1 = .ok (.iload_n 1, 1) := by decide +kernel
theorem dX2_searchWay_2 : decode cX2_searchWay 2 = .ok (.invokevirtual 46, 3) := by decide +kernel
theorem dX2_searchWay_5 : decode cX2_searchWay 5 = .ok (.ifCond .eq 11, 3) := by decide +kernel
theorem dX2_searchWay_8 : decode cX2_searchWay 8 = .ok (.aload_n 0, 1) := by decide +kernel
theorem dX2_searchWay_9 : decode cX2_searchWay 9 = .ok (.iload_n 2, 1) := by decide +kernel
theorem dX2_searchWay_10 : decode cX2_searchWay 10 = .ok (.invokevirtual 46, 3) := by decide +kernel
theorem dX2_searchWay_13 : decode cX2_searchWay 13 = .ok (.ifCond .ne 7, 3) := by decide +kernel
theorem dX2_searchWay_16 : decode cX2_searchWay 16 = .ok (.sipush 1000, 3) := by decide +kernel
theorem dX2_searchWay_19 : decode cX2_searchWay 19 = .ok (.ireturn, 1) := by decide +kernel
theorem dX2_searchWay_20 : decode cX2_searchWay 20 = .ok (.iconst 0, 1) := by decide +kernel
theorem dX2_searchWay_21 : decode cX2_searchWay 21 = .ok (.istore_n 3, 1) := by decide +kernel
theorem dX2_searchWay_22 : decode cX2_searchWay 22 = .ok (.iload_n 3, 1) := by decide +kernel
theorem dX2_searchWay_23 : decode cX2_searchWay 23 = .ok (.bipush 8, 2) := by decide +kernel
theorem dX2_searchWay_25 : decode cX2_searchWay 25 = .ok (.if_icmp .ge 27, 3) := by decide +kernel
theorem dX2_searchWay_28 : decode cX2_searchWay 28 = .ok (.aload_n 0, 1) := by decide +kernel
theorem dX2_searchWay_29 : decode cX2_searchWay 29 = .ok (.getfield 18, 3) := by decide +kernel
theorem dX2_searchWay_32 : decode cX2_searchWay 32 = .ok (.iload_n 3, 1) := by decide +kernel
theorem dX2_searchWay_33 : decode cX2_searchWay 33 = .ok (.iload_n 3, 1) := by decide +kernel
theorem dX2_searchWay_34 : decode cX2_searchWay 34 = .ok (.iload_n 1, 1) := by decide +kernel
theorem dX2_searchWay_35 : decode cX2_searchWay 35 = .ok (.if_icmp .ne 7, 3) := by decide +kernel
theorem dX2_searchWay_38 : decode cX2_searchWay 38 = .ok (.iconst 0, 1) := by decide +kernel
theorem dX2_searchWay_39 : decode cX2_searchWay 39 = .ok (.goto 6, 3) := by decide +kernel
theorem dX2_searchWay_42 : decode cX2_searchWay 42 = .ok (.sipush 1000, 3) := by decide +kernel
theorem dX2_searchWay_45 : decode cX2_searchWay 45 = .ok (.iastore, 1) := by decide +kernel
theorem dX2_searchWay_46 : decode cX2_searchWay 46 = .ok (.iinc 3 1, 3) := by decide +kernel
theorem dX2_searchWay_49 : decode cX2_searchWay 49 = .ok (.goto (-27), 3) := by decide +kernel
theorem dX2_searchWay_52 : decode cX2_searchWay 52 = .ok (.iconst 0, 1) := by decide +kernel
theorem dX2_searchWay_53 : decode cX2_searchWay 53 = .ok (.istore_n 3, 1) := by decide +kernel
theorem dX2_searchWay_54 : decode cX2_searchWay 54 = .ok (.iconst 0, 1) := by decide +kernel
theorem dX2_searchWay_55 : decode cX2_searchWay 55 = .ok (.istore 4, 2) := by decide +kernel
theorem dX2_searchWay_57 : decode cX2_searchWay 57 = .ok (.iload 4, 2) := by decide +kernel
theorem dX2_searchWay_59 : decode cX2_searchWay 59 = .ok (.bipush 8, 2) := by decide +kernel
theorem dX2_searchWay_61 : decode cX2_searchWay 61 = .ok (.if_icmp .ge 35, 3) := by decide +kernel
theorem dX2_searchWay_64 : decode cX2_searchWay 64 = .ok (.aload_n 0, 1) := by decide +kernel
theorem dX2_searchWay_65 : decode cX2_searchWay 65 = .ok (.iload_n 3, 1) := by decide +kernel
theorem dX2_searchWay_66 : decode cX2_searchWay 66 = .ok (.invokevirtual 71, 3) := by decide +kernel
theorem dX2_searchWay_69 : decode cX2_searchWay 69 = .ok (.istore 5, 2) := by decide +kernel
theorem dX2_searchWay_71 : decode cX2_searchWay 71 = .ok (.iload 5, 2) := by decide +kernel
theorem dX2_searchWay_73 : decode cX2_searchWay 73 = .ok (.iconst (-1), 1) := by decide +kernel
theorem dX2_searchWay_74 : decode cX2_searchWay 74 = .ok (.if_icmp .eq 16, 3) := by decide +kernel
theorem dX2_searchWay_77 : decode cX2_searchWay 77 = .ok (.iload_n 3, 1) := by decide +kernel
theorem dX2_searchWay_78 : decode cX2_searchWay 78 = .ok (.iconst 1, 1) := by decide +kernel
theorem dX2_searchWay_79 : decode cX2_searchWay 79 = .ok (.iload 5, 2) := by decide +kernel
theorem dX2_searchWay_81 : decode cX2_searchWay 81 = .ok (.ishl, 1) := by decide +kernel
theorem dX2_searchWay_82 : decode cX2_searchWay 82 = .ok (.ior, 1) := by decide +kernel
theorem dX2_searchWay_83 : decode cX2_searchWay 83 = .ok (.istore_n 3, 1) := by decide +kernel
theorem dX2_searchWay_84 : decode cX2_searchWay 84 = .ok (.aload_n 0, 1) := by decide +kernel
theorem dX2_searchWay_85 : decode cX2_searchWay 85 = .ok (.iload 5, 2) := by decide +kernel
theorem dX2_searchWay_87 : decode cX2_searchWay 87 = .ok (.invokevirtual 75, 3) := by decide +kernel
theorem dX2_searchWay_90 : decode cX2_searchWay 90 = .ok (.iinc 4 1, 3) := by decide +kernel
theorem dX2_searchWay_93 : decode cX2_searchWay 93 = .ok (.goto (-36), 3) := by decide +kernel
theorem dX2_searchWay_96 : decode cX2_searchWay 96 = .ok (.aload_n 0, 1) := by decide +kernel
theorem dX2_searchWay_97 : decode cX2_searchWay 97 = .ok (.getfield 18, 3) := by decide +kernel
theorem dX2_searchWay_100 : decode cX2_searchWay 100 = .ok (.iload_n 2, 1) := by decide +kernel
theorem dX2_searchWay_101 : decode cX2_searchWay 101 = .ok (.iaload, 1) := by decide +kernel
theorem dX2_searchWay_102 : decode cX2_searchWay 102 = .ok (.ireturn, 1) := by decide +kernel
theorem dX2_nearestBut_0 : decode cX2_nearestBut 0 = .ok (.iconst (-1), 1) := by decide +kernel
theorem dX2_nearestBut_1 : decode cX2_nearestBut 1 = .ok (.istore_n 2, 1) := by decide +kernel
theorem dX2_nearestBut_2 : decode cX2_nearestBut 2 = .ok (.sipush 1000, 3) := by decide +kernel
theorem dX2_nearestBut_5 : decode cX2_nearestBut 5 = .ok (.istore_n 3, 1) := by decide +kernel
theorem dX2_nearestBut_6 : decode cX2_nearestBut 6 = .ok (.iconst 0, 1) := by decide +kernel
theorem dX2_nearestBut_7 : decode cX2_nearestBut 7 = .ok (.istore 4, 2) := by decide +kernel
theorem dX2_nearestBut_9 : decode cX2_nearestBut 9 = .ok (.iload 4, 2) := by decide +kernel
theorem dX2_nearestBut_11 : decode cX2_nearestBut 11 = .ok (.bipush 8, 2) := by decide +kernel
theorem dX2_nearestBut_13 : decode cX2_nearestBut 13 = .ok (.if_icmp .ge 40, 3) := by decide +kernel
theorem dX2_nearestBut_16 : decode cX2_nearestBut 16 = .ok (.iload_n 1, 1) := by decide +kernel
theorem dX2_nearestBut_17 : decode cX2_nearestBut 17 = .ok (.iconst 1, 1) := by decide +kernel
theorem dX2_nearestBut_18 : decode cX2_nearestBut 18 = .ok (.iload 4, 2) := by decide +kernel
theorem dX2_nearestBut_20 : decode cX2_nearestBut 20 = .ok (.ishl, 1) := by decide +kernel
theorem dX2_nearestBut_21 : decode cX2_nearestBut 21 = .ok (.iand, 1) := by decide +kernel
theorem dX2_nearestBut_22 : decode cX2_nearestBut 22 = .ok (.ifCond .ne 25, 3) := by decide +kernel
theorem dX2_nearestBut_25 : decode cX2_nearestBut 25 = .ok (.aload_n 0, 1) := by decide +kernel
theorem dX2_nearestBut_26 : decode cX2_nearestBut 26 = .ok (.getfield 18, 3) := by decide +kernel
theorem dX2_nearestBut_29 : decode cX2_nearestBut 29 = .ok (.iload 4, 2) := by decide +kernel
theorem dX2_nearestBut_31 : decode cX2_nearestBut 31 = .ok (.iaload, 1) := by decide +kernel
theorem dX2_nearestBut_32 : decode cX2_nearestBut 32 = .ok (.iload_n 3, 1) := by decide +kernel
theorem dX2_nearestBut_33 : decode cX2_nearestBut 33 = .ok (.if_icmp .ge 14, 3) := by decide +kernel
theorem dX2_nearestBut_36 : decode cX2_nearestBut 36 = .ok (.iload 4, 2) := by decide +kernel
theorem dX2_nearestBut_38 : decode cX2_nearestBut 38 = .ok (.istore_n 2, 1) := by decide +kernel
theorem dX2_nearestBut_39 : decode cX2_nearestBut 39 = .ok (.aload_n 0, 1) := by decide +kernel
theorem dX2_nearestBut_40 : decode cX2_nearestBut 40 = .ok (.getfield 18, 3) := by decide +kernel
theorem dX2_nearestBut_43 : decode cX2_nearestBut 43 = .ok (.iload 4, 2) := by decide +kernel
theorem dX2_nearestBut_45 : decode cX2_nearestBut 45 = .ok (.iaload, 1) := by decide +kernel
theorem dX2_nearestBut_46 : decode cX2_nearestBut 46 = .ok (.istore_n 3, 1) := by decide +kernel
theorem dX2_nearestBut_47 : decode cX2_nearestBut 47 = .ok (.iinc 4 1, 3) := by decide +kernel
theorem dX2_nearestBut_50 : decode cX2_nearestBut 50 = .ok (.goto (-41), 3) := by decide +kernel
theorem dX2_nearestBut_53 : decode cX2_nearestBut 53 = .ok (.iload_n 2, 1) := by decide +kernel
theorem dX2_nearestBut_54 : decode cX2_nearestBut 54 = .ok (.ireturn, 1) := by decide +kernel
theorem dX2_continueFrom_0 : decode cX2_continueFrom 0 = .ok (.iconst 0, 1) := by decide +kernel
theorem dX2_continueFrom_1 : decode cX2_continueFrom 1 = .ok (.istore_n 2, 1) := by decide +kernel
theorem dX2_continueFrom_2 : decode cX2_continueFrom 2 = .ok (.iload_n 2, 1) := by decide +kernel
theorem dX2_continueFrom_3 : decode cX2_continueFrom 3 = .ok (.bipush 8, 2) := by decide +kernel
theorem dX2_continueFrom_5 : decode cX2_continueFrom 5 = .ok (.if_icmp .ge 51, 3) := by decide +kernel
theorem dX2_continueFrom_8 : decode cX2_continueFrom 8 = .ok (.aload_n 0, 1) := by decide +kernel
theorem dX2_continueFrom_9 : decode cX2_continueFrom 9 = .ok (.iload_n 1, 1) := by decide +kernel
theorem dX2_continueFrom_10 : decode cX2_continueFrom 10 = .ok (.iload_n 2, 1) := by decide +kernel
theorem dX2_continueFrom_11 : decode cX2_continueFrom 11 = .ok (.invokevirtual 56, 3) := by decide +kernel
theorem dX2_continueFrom_14 : decode cX2_continueFrom 14 = .ok (.istore_n 3, 1) := by decide +kernel
theorem dX2_continueFrom_15 : decode cX2_continueFrom 15 = .ok (.iload_n 3, 1) := by decide +kernel
theorem dX2_continueFrom_16 : decode cX2_continueFrom 16 = .ok (.ifCond .eq 34, 3) := by decide +kernel
theorem dX2_continueFrom_19 : decode cX2_continueFrom 19 = .ok (.aload_n 0, 1) := by decide +kernel
theorem dX2_continueFrom_20 : decode cX2_continueFrom 20 = .ok (.getfield 18, 3) := by decide +kernel
theorem dX2_continueFrom_23 : decode cX2_continueFrom 23 = .ok (.iload_n 1, 1) := by decide +kernel
theorem dX2_continueFrom_24 : decode cX2_continueFrom 24 = .ok (.iaload, 1) := by decide +kernel
theorem dX2_continueFrom_25 : decode cX2_continueFrom 25 = .ok (.iload_n 3, 1) := by decide +kernel
theorem dX2_continueFrom_26 : decode cX2_continueFrom 26 = .ok (.iadd, 1) := by decide +kernel
theorem dX2_continueFrom_27 : decode cX2_continueFrom 27 = .ok (.aload_n 0, 1) := by decide +kernel
theorem dX2_continueFrom_28 : decode cX2_continueFrom 28 = .ok (.getfield 18, 3) := by decide +kernel
theorem dX2_continueFrom_31 : decode cX2_continueFrom 31 = .ok (.iload_n 2, 1) := by decide +kernel
theorem dX2_continueFrom_32 : decode cX2_continueFrom 32 = .ok (.iaload, 1) := by decide +kernel
theorem dX2_continueFrom_33 : decode cX2_continueFrom 33 = .ok (.if_icmp .ge 17, 3) := by decide +kernel
theorem dX2_continueFrom_36 : decode cX2_continueFrom 36 = .ok (.aload_n 0, 1) := by decide +kernel
theorem dX2_continueFrom_37 : decode cX2_continueFrom 37 = .ok (.getfield 18, 3) := by decide +kernel
theorem dX2_continueFrom_40 : decode cX2_continueFrom 40 = .ok (.iload_n 2, 1) := by decide +kernel
theorem dX2_continueFrom_41 : decode cX2_continueFrom 41 = .ok (.aload_n 0, 1) := by decide +kernel
theorem dX2_continueFrom_42 : decode cX2_continueFrom 42 = .ok (.getfield 18, 3) := by decide +kernel
theorem dX2_continueFrom_45 : decode cX2_continueFrom 45 = .ok (.iload_n 1, 1) := by decide +kernel
theorem dX2_continueFrom_46 : decode cX2_continueFrom 46 = .ok (.iaload, 1) := by decide +kernel
theorem dX2_continueFrom_47 : decode cX2_continueFrom 47 = .ok (.iload_n 3, 1) := by decide +kernel
theorem dX2_continueFrom_48 : decode cX2_continueFrom 48 = .ok (.iadd, 1) := by decide +kernel
theorem dX2_continueFrom_49 : decode cX2_continueFrom 49 = .ok (.iastore, 1) := by decide +kernel
theorem dX2_continueFrom_50 : decode cX2_continueFrom 50 = .ok (.iinc 2 1, 3) := by decide +kernel
theorem dX2_continueFrom_53 : decode cX2_continueFrom 53 = .ok (.goto (-51), 3) := by decide +kernel
theorem dX2_continueFrom_56 : decode cX2_continueFrom 56 = .ok (.return_, 1) := by decide +kernel
theorem dX2_waysAgree_0 : decode cX2_waysAgree 0 = .ok (.iconst 0, 1) := by decide +kernel
theorem dX2_waysAgree_1 : decode cX2_waysAgree 1 = .ok (.istore_n 1, 1) := by decide +kernel
theorem dX2_waysAgree_2 : decode cX2_waysAgree 2 = .ok (.iload_n 1, 1) := by decide +kernel
theorem dX2_waysAgree_3 : decode cX2_waysAgree 3 = .ok (.aload_n 0, 1) := by decide +kernel
theorem dX2_waysAgree_4 : decode cX2_waysAgree 4 = .ok (.getfield 24, 3) := by decide +kernel
theorem dX2_waysAgree_7 : decode cX2_waysAgree 7 = .ok (.if_icmp .ge 42, 3) := by decide +kernel
theorem dX2_waysAgree_10 : decode cX2_waysAgree 10 = .ok (.iconst 0, 1) := by decide +kernel
theorem dX2_waysAgree_11 : decode cX2_waysAgree 11 = .ok (.istore_n 2, 1) := by decide +kernel
theorem dX2_waysAgree_12 : decode cX2_waysAgree 12 = .ok (.iload_n 2, 1) := by decide +kernel
theorem dX2_waysAgree_13 : decode cX2_waysAgree 13 = .ok (.aload_n 0, 1) := by decide +kernel
theorem dX2_waysAgree_14 : decode cX2_waysAgree 14 = .ok (.getfield 24, 3) := by decide +kernel
theorem dX2_waysAgree_17 : decode cX2_waysAgree 17 = .ok (.if_icmp .ge 26, 3) := by decide +kernel
theorem dX2_waysAgree_20 : decode cX2_waysAgree 20 = .ok (.aload_n 0, 1) := by decide +kernel
theorem dX2_waysAgree_21 : decode cX2_waysAgree 21 = .ok (.iload_n 1, 1) := by decide +kernel
theorem dX2_waysAgree_22 : decode cX2_waysAgree 22 = .ok (.iload_n 2, 1) := by decide +kernel
theorem dX2_waysAgree_23 : decode cX2_waysAgree 23 = .ok (.invokevirtual 79, 3) := by decide +kernel
theorem dX2_waysAgree_26 : decode cX2_waysAgree 26 = .ok (.aload_n 0, 1) := by decide +kernel
theorem dX2_waysAgree_27 : decode cX2_waysAgree 27 = .ok (.iload_n 1, 1) := by decide +kernel
theorem dX2_waysAgree_28 : decode cX2_waysAgree 28 = .ok (.iload_n 2, 1) := by decide +kernel
theorem dX2_waysAgree_29 : decode cX2_waysAgree 29 = .ok (.invokevirtual 82, 3) := by decide +kernel
theorem dX2_waysAgree_32 : decode cX2_waysAgree 32 = .ok (.if_icmp .eq 5, 3) := by decide +kernel
theorem dX2_waysAgree_35 : decode cX2_waysAgree 35 = .ok (.iconst 0, 1) := by decide +kernel
theorem dX2_waysAgree_36 : decode cX2_waysAgree 36 = .ok (.ireturn, 1) := by decide +kernel
theorem dX2_waysAgree_37 : decode cX2_waysAgree 37 = .ok (.iinc 2 1, 3) := by decide +kernel
theorem dX2_waysAgree_40 : decode cX2_waysAgree 40 = .ok (.goto (-28), 3) := by decide +kernel
theorem dX2_waysAgree_43 : decode cX2_waysAgree 43 = .ok (.iinc 1 1, 3) := by decide +kernel
theorem dX2_waysAgree_46 : decode cX2_waysAgree 46 = .ok (.goto (-44), 3) := by decide +kernel
theorem dX2_waysAgree_49 : decode cX2_waysAgree 49 = .ok (.iconst 1, 1) := by decide +kernel
theorem dX2_waysAgree_50 : decode cX2_waysAgree 50 = .ok (.ireturn, 1) := by decide +kernel
theorem dX3_init_0 : decode cX3_init 0 = .ok (.aload_n 0, 1) := by decide +kernel
theorem dX3_init_1 : decode cX3_init 1 = .ok (.invokespecial 3, 3) := by decide +kernel
theorem dX3_init_4 : decode cX3_init 4 = .ok (.aload_n 0, 1) := by decide +kernel
theorem dX3_init_5 : decode cX3_init 5 = .ok (.getstatic 9, 3) := by decide +kernel
theorem dX3_init_8 : decode cX3_init 8 = .ok (.putfield 15, 3) := by decide +kernel
theorem dX3_init_11 : decode cX3_init 11 = .ok (.aload_n 0, 1) := by decide +kernel
theorem dX3_init_12 : decode cX3_init 12 = .ok (.iconst 3, 1) := by decide +kernel
theorem dX3_init_13 : decode cX3_init 13 = .ok (.newarray .int, 2) := by decide +kernel
theorem dX3_init_15 : decode cX3_init 15 = .ok (.putfield 20, 3) := by decide +kernel
theorem dX3_init_18 : decode cX3_init 18 = .ok (.return_, 1) := by decide +kernel
theorem dX3_addArgument_0 : decode cX3_addArgument 0 = .ok (.aload_n 0, 1) := by decide +kernel
theorem dX3_addArgument_1 : decode cX3_addArgument 1 = .ok (.getfield 24, 3) := by decide +kernel
theorem dX3_addArgument_4 : decode cX3_addArgument 4 = .ok (.ifCond .lt 31, 3) := by decide +kernel
theorem dX3_addArgument_7 : decode cX3_addArgument 7 = .ok (.aload_n 0, 1) := by decide +kernel
theorem dX3_addArgument_8 : decode cX3_addArgument 8 = .ok (.getfield 24, 3) := by decide +kernel
theorem dX3_addArgument_11 : decode cX3_addArgument 11 = .ok (.iconst 3, 1) := by decide +kernel
theorem dX3_addArgument_12 : decode cX3_addArgument 12 = .ok (.if_icmp .ge 23, 3) := by decide +kernel
theorem dX3_addArgument_15 : decode cX3_addArgument 15 = .ok (.aload_n 0, 1) := by decide +kernel
theorem dX3_addArgument_16 : decode cX3_addArgument 16 = .ok (.getfield 20, 3) := by decide +kernel
theorem dX3_addArgument_19 : decode cX3_addArgument 19 = .ok (.aload_n 0, 1) := by decide +kernel
theorem dX3_addArgument_20 : decode cX3_addArgument 20 = .ok (.getfield 24, 3) := by decide +kernel
theorem dX3_addArgument_23 : decode cX3_addArgument 23 = .ok (.iload_n 1, 1) := by decide +kernel
theorem dX3_addArgument_24 : decode cX3_addArgument 24 = .ok (.iastore, 1) := by decide +kernel
theorem dX3_addArgument_25 : decode cX3_addArgument 25 = .ok (.aload_n 0, 1) := by decide +kernel
theorem dX3_addArgument_26 : decode cX3_addArgument 26 = .ok (.dup, 1) := by decide +kernel
theorem dX3_addArgument_27 : decode cX3_addArgument 27 = .ok (.getfield 24, 3) := by decide +kernel
theorem dX3_addArgument_30 : decode cX3_addArgument 30 = .ok (.iconst 1, 1) := by decide +kernel
theorem dX3_addArgument_31 : decode cX3_addArgument 31 = .ok (.iadd, 1) := by decide +kernel
theorem dX3_addArgument_32 : decode cX3_addArgument 32 = .ok (.putfield 24, 3) := by decide +kernel
theorem dX3_addArgument_35 : decode cX3_addArgument 35 = .ok (.return_, 1) := by decide +kernel
theorem dX5_init_0 : decode cX5_init 0 = .ok (.aload_n 0, 1) := by decide +kernel
theorem dX5_init_1 : decode cX5_init 1 = .ok (.invokespecial 3, 3) := by decide +kernel
theorem dX5_init_4 : decode cX5_init 4 = .ok (.aload_n 0, 1) := by decide +kernel
theorem dX5_init_5 : decode cX5_init 5 = .ok (.bipush 60, 2) := by decide +kernel
theorem dX5_init_7 : decode cX5_init 7 = .ok (.newarray .char, 2) := by decide +kernel
theorem dX5_init_9 : decode cX5_init 9 = .ok (.putfield 9, 3) := by decide +kernel
theorem dX5_init_12 : decode cX5_init 12 = .ok (.aload_n 0, 1) := by decide +kernel
theorem dX5_init_13 : decode cX5_init 13 = .ok (.bipush 9, 2) := by decide +kernel
theorem dX5_init_15 : decode cX5_init 15 = .ok (.anewarray 15, 3) := by decide +kernel
theorem dX5_init_18 : decode cX5_init 18 = .ok (.putfield 17, 3) := by decide +kernel
theorem dX5_init_21 : decode cX5_init 21 = .ok (.aload_n 0, 1) := by decide +kernel
theorem dX5_init_22 : decode cX5_init 22 = .ok (.iconst (-1), 1) := by decide +kernel
theorem dX5_init_23 : decode cX5_init 23 = .ok (.putfield 21, 3) := by decide +kernel
theorem dX5_init_26 : decode cX5_init 26 = .ok (.iconst 0, 1) := by decide +kernel
theorem dX5_init_27 : decode cX5_init 27 = .ok (.istore_n 1, 1) := by decide +kernel
theorem dX5_init_28 : decode cX5_init 28 = .ok (.iload_n 1, 1) := by decide +kernel
theorem dX5_init_29 : decode cX5_init 29 = .ok (.bipush 9, 2) := by decide +kernel
theorem dX5_init_31 : decode cX5_init 31 = .ok (.if_icmp .ge 22, 3) := by decide +kernel
theorem dX5_init_34 : decode cX5_init 34 = .ok (.aload_n 0, 1) := by decide +kernel
theorem dX5_init_35 : decode cX5_init 35 = .ok (.getfield 17, 3) := by decide +kernel
theorem dX5_init_38 : decode cX5_init 38 = .ok (.iload_n 1, 1) := by decide +kernel
theorem dX5_init_39 : decode cX5_init 39 = .ok (.new 15, 3) := by decide +kernel
theorem dX5_init_42 : decode cX5_init 42 = .ok (.dup, 1) := by decide +kernel
theorem dX5_init_43 : decode cX5_init 43 = .ok (.invokespecial 25, 3) := by decide +kernel
theorem dX5_init_46 : decode cX5_init 46 = .ok (.aastore, 1) := by decide +kernel
theorem dX5_init_47 : decode cX5_init 47 = .ok (.iinc 1 1, 3) := by decide +kernel
theorem dX5_init_50 : decode cX5_init 50 = .ok (.goto (-22), 3) := by decide +kernel
theorem dX5_init_53 : decode cX5_init 53 = .ok (.return_, 1) := by decide +kernel
theorem dX5_take_0 : decode cX5_take 0 = .ok (.aload_n 0, 1) := by decide +kernel
theorem dX5_take_1 : decode cX5_take 1 = .ok (.getfield 26, 3) := by decide +kernel
theorem dX5_take_4 : decode cX5_take 4 = .ok (.ifCond .lt 12, 3) := by decide +kernel
theorem dX5_take_7 : decode cX5_take 7 = .ok (.aload_n 0, 1) := by decide +kernel
theorem dX5_take_8 : decode cX5_take 8 = .ok (.getfield 26, 3) := by decide +kernel
theorem dX5_take_11 : decode cX5_take 11 = .ok (.bipush 60, 2) := by decide +kernel
theorem dX5_take_13 : decode cX5_take 13 = .ok (.if_icmp .lt 5, 3) := by decide +kernel
theorem dX5_take_16 : decode cX5_take 16 = .ok (.iconst 0, 1) := by decide +kernel
theorem dX5_take_17 : decode cX5_take 17 = .ok (.ireturn, 1) := by decide +kernel
theorem dX5_take_18 : decode cX5_take 18 = .ok (.aload_n 0, 1) := by decide +kernel
theorem dX5_take_19 : decode cX5_take 19 = .ok (.getfield 9, 3) := by decide +kernel
theorem dX5_take_22 : decode cX5_take 22 = .ok (.aload_n 0, 1) := by decide +kernel
theorem dX5_take_23 : decode cX5_take 23 = .ok (.getfield 26, 3) := by decide +kernel
theorem dX5_take_26 : decode cX5_take 26 = .ok (.iload_n 1, 1) := by decide +kernel
theorem dX5_take_27 : decode cX5_take 27 = .ok (.castore, 1) := by decide +kernel
theorem dX5_take_28 : decode cX5_take 28 = .ok (.aload_n 0, 1) := by decide +kernel
theorem dX5_take_29 : decode cX5_take 29 = .ok (.dup, 1) := by decide +kernel
theorem dX5_take_30 : decode cX5_take 30 = .ok (.getfield 26, 3) := by decide +kernel
theorem dX5_take_33 : decode cX5_take 33 = .ok (.iconst 1, 1) := by decide +kernel
theorem dX5_take_34 : decode cX5_take 34 = .ok (.iadd, 1) := by decide +kernel
theorem dX5_take_35 : decode cX5_take 35 = .ok (.putfield 26, 3) := by decide +kernel
theorem dX5_take_38 : decode cX5_take 38 = .ok (.iconst 1, 1) := by decide +kernel
theorem dX5_take_39 : decode cX5_take 39 = .ok (.ireturn, 1) := by decide +kernel
theorem dX5_readText_0 : decode cX5_readText 0 = .ok (.aload_n 0, 1) := by decide +kernel
theorem dX5_readText_1 : decode cX5_readText 1 = .ok (.iconst 0, 1) := by decide +kernel
theorem dX5_readText_2 : decode cX5_readText 2 = .ok (.putfield 29, 3) := by decide +kernel
theorem dX5_readText_5 : decode cX5_readText 5 = .ok (.aload_n 0, 1) := by decide +kernel
theorem dX5_readText_6 : decode cX5_readText 6 = .ok (.iconst (-1), 1) := by decide +kernel
theorem dX5_readText_7 : decode cX5_readText 7 = .ok (.putfield 21, 3) := by decide +kernel
theorem dX5_readText_10 : decode cX5_readText 10 = .ok (.iconst 0, 1) := by decide +kernel
theorem dX5_readText_11 : decode cX5_readText 11 = .ok (.istore_n 1, 1) := by decide +kernel
theorem dX5_readText_12 : decode cX5_readText 12 = .ok (.iconst 1, 1) := by decide +kernel
theorem dX5_readText_13 : decode cX5_readText 13 = .ok (.istore_n 2, 1) := by decide +kernel
theorem dX5_readText_14 : decode cX5_readText 14 = .ok (.iload_n 2, 1) := by decide +kernel
theorem dX5_readText_15 : decode cX5_readText 15 = .ok (.ifCond .eq 97, 3) := by decide +kernel
theorem dX5_readText_18 : decode cX5_readText 18 = .ok (.aload_n 0, 1) := by decide +kernel
theorem dX5_readText_19 : decode cX5_readText 19 = .ok (.getfield 29, 3) := by decide +kernel
theorem dX5_readText_22 : decode cX5_readText 22 = .ok (.bipush 9, 2) := by decide +kernel
theorem dX5_readText_24 : decode cX5_readText 24 = .ok (.if_icmp .ge 88, 3) := by decide +kernel
theorem dX5_readText_27 : decode cX5_readText 27 = .ok (.aload_n 0, 1) := by decide +kernel
theorem dX5_readText_28 : decode cX5_readText 28 = .ok (.iload_n 1, 1) := by decide +kernel
theorem dX5_readText_29 : decode cX5_readText 29 = .ok (.aload_n 0, 1) := by decide +kernel
theorem dX5_readText_30 : decode cX5_readText 30 = .ok (.getfield 17, 3) := by decide +kernel
theorem dX5_readText_33 : decode cX5_readText 33 = .ok (.aload_n 0, 1) := by decide +kernel
theorem dX5_readText_34 : decode cX5_readText 34 = .ok (.getfield 29, 3) := by decide +kernel
theorem dX5_readText_37 : decode cX5_readText 37 = .ok (.aaload, 1) := by decide +kernel
theorem dX5_readText_38 : decode cX5_readText 38 = .ok (.invokevirtual 32, 3) := by decide +kernel
theorem dX5_readText_41 : decode cX5_readText 41 = .ok (.istore_n 3, 1) := by decide +kernel
theorem dX5_readText_42 : decode cX5_readText 42 = .ok (.iload_n 3, 1) := by decide +kernel
theorem dX5_readText_43 : decode cX5_readText 43 = .ok (.ifCond .eq 20, 3) := by decide +kernel
theorem dX5_readText_46 : decode cX5_readText 46 = .ok (.aload_n 0, 1) := by decide +kernel
theorem dX5_readText_47 : decode cX5_readText 47 = .ok (.aload_n 0, 1) := by decide +kernel
theorem dX5_readText_48 : decode cX5_readText 48 = .ok (.getfield 36, 3) := by decide +kernel
theorem dX5_readText_51 : decode cX5_readText 51 = .ok (.bipush 59, 2) := by decide +kernel
theorem dX5_readText_53 : decode cX5_readText 53 = .ok (.invokevirtual 39, 3) := by decide +kernel
theorem dX5_readText_56 : decode cX5_readText 56 = .ok (.ifCond .eq 7, 3) := by decide +kernel
theorem dX5_readText_59 : decode cX5_readText 59 = .ok (.iconst 1, 1) := by decide +kernel
theorem dX5_readText_60 : decode cX5_readText 60 = .ok (.goto 4, 3) := by decide +kernel
theorem dX5_readText_63 : decode cX5_readText 63 = .ok (.iconst 0, 1) := by decide +kernel
theorem dX5_readText_64 : decode cX5_readText 64 = .ok (.istore_n 2, 1) := by decide +kernel
theorem dX5_readText_65 : decode cX5_readText 65 = .ok (.iload_n 3, 1) := by decide +kernel
theorem dX5_readText_66 : decode cX5_readText 66 = .ok (.ifCond .eq 18, 3) := by decide +kernel
theorem dX5_readText_69 : decode cX5_readText 69 = .ok (.iload_n 2, 1) := by decide +kernel
theorem dX5_readText_70 : decode cX5_readText 70 = .ok (.ifCond .ne 22, 3) := by decide +kernel
theorem dX5_readText_73 : decode cX5_readText 73 = .ok (.aload_n 0, 1) := by decide +kernel
theorem dX5_readText_74 : decode cX5_readText 74 = .ok (.getfield 36, 3) := by decide +kernel
theorem dX5_readText_77 : decode cX5_readText 77 = .ok (.aload_n 0, 1) := by decide +kernel
theorem dX5_readText_78 : decode cX5_readText 78 = .ok (.getfield 26, 3) := by decide +kernel
theorem dX5_readText_81 : decode cX5_readText 81 = .ok (.if_icmp .ge 11, 3) := by decide +kernel
theorem dX5_readText_84 : decode cX5_readText 84 = .ok (.aload_n 0, 1) := by decide +kernel
theorem dX5_readText_85 : decode cX5_readText 85 = .ok (.aload_n 0, 1) := by decide +kernel
theorem dX5_readText_86 : decode cX5_readText 86 = .ok (.getfield 36, 3) := by decide +kernel
theorem dX5_readText_89 : decode cX5_readText 89 = .ok (.putfield 21, 3) := by decide +kernel
theorem dX5_readText_92 : decode cX5_readText 92 = .ok (.aload_n 0, 1) := by decide +kernel
theorem dX5_readText_93 : decode cX5_readText 93 = .ok (.dup, 1) := by decide +kernel
theorem dX5_readText_94 : decode cX5_readText 94 = .ok (.getfield 29, 3) := by decide +kernel
theorem dX5_readText_97 : decode cX5_readText 97 = .ok (.iconst 1, 1) := by decide +kernel
theorem dX5_readText_98 : decode cX5_readText 98 = .ok (.iadd, 1) := by decide +kernel
theorem dX5_readText_99 : decode cX5_readText 99 = .ok (.putfield 29, 3) := by decide +kernel
theorem dX5_readText_102 : decode cX5_readText 102 = .ok (.aload_n 0, 1) := by decide +kernel
theorem dX5_readText_103 : decode cX5_readText 103 = .ok (.getfield 36, 3) := by decide +kernel
theorem dX5_readText_106 : decode cX5_readText 106 = .ok (.iconst 1, 1) := by decide +kernel
theorem dX5_readText_107 : decode cX5_readText 107 = .ok (.iadd, 1) := by decide +kernel
theorem dX5_readText_108 : decode cX5_readText 108 = .ok (.istore_n 1, 1) := by decide +kernel
theorem dX5_readText_109 : decode cX5_readText 109 = .ok (.goto (-95), 3) := by decide +kernel
theorem dX5_readText_112 : decode cX5_readText 112 = .ok (.return_, 1) := by decide +kernel
theorem dX5_readCommand_0 : decode cX5_readCommand 0 = .ok (.iload_n 1, 1) := by decide +kernel
theorem dX5_readCommand_1 : decode cX5_readCommand 1 = .ok (.istore_n 3, 1) := by decide +kernel
theorem dX5_readCommand_2 : decode cX5_readCommand 2 = .ok (.iconst 0, 1) := by decide +kernel
theorem dX5_readCommand_3 : decode cX5_readCommand 3 = .ok (.istore 4, 2) := by decide +kernel
theorem dX5_readCommand_5 : decode cX5_readCommand 5 = .ok (.iload 4, 2) := by decide +kernel
theorem dX5_readCommand_7 : decode cX5_readCommand 7 = .ok (.getstatic 43, 3) := by decide +kernel
theorem dX5_readCommand_10 : decode cX5_readCommand 10 = .ok (.arraylength, 1) := by decide +kernel
theorem dX5_readCommand_11 : decode cX5_readCommand 11 = .ok (.if_icmp .ge 35, 3) := by decide +kernel
theorem dX5_readCommand_14 : decode cX5_readCommand 14 = .ok (.aload_n 0, 1) := by decide +kernel
theorem dX5_readCommand_15 : decode cX5_readCommand 15 = .ok (.getstatic 43, 3) := by decide +kernel
theorem dX5_readCommand_18 : decode cX5_readCommand 18 = .ok (.iload 4, 2) := by decide +kernel
theorem dX5_readCommand_20 : decode cX5_readCommand 20 = .ok (.aaload, 1) := by decide +kernel
theorem dX5_readCommand_21 : decode cX5_readCommand 21 = .ok (.iload_n 1, 1) := by decide +kernel
theorem dX5_readCommand_22 : decode cX5_readCommand 22 = .ok (.aload_n 2, 1) := by decide +kernel
theorem dX5_readCommand_23 : decode cX5_readCommand 23 = .ok (.invokevirtual 47, 3) := by decide +kernel
theorem dX5_readCommand_26 : decode cX5_readCommand 26 = .ok (.ifCond .eq 5, 3) := by decide +kernel
theorem dX5_readCommand_29 : decode cX5_readCommand 29 = .ok (.iconst 1, 1) := by decide +kernel
theorem dX5_readCommand_30 : decode cX5_readCommand 30 = .ok (.ireturn, 1) := by decide +kernel
theorem dX5_readCommand_31 : decode cX5_readCommand 31 = .ok (.iload_n 3, 1) := by decide +kernel
theorem dX5_readCommand_32 : decode cX5_readCommand 32 = .ok (.aload_n 0, 1) := by decide +kernel
theorem dX5_readCommand_33 : decode cX5_readCommand 33 = .ok (.getfield 36, 3) := by decide +kernel
theorem dX5_readCommand_36 : decode cX5_readCommand 36 = .ok (.invokestatic 51, 3) := by decide +kernel
theorem dX5_readCommand_39 : decode cX5_readCommand 39 = .ok (.istore_n 3, 1) := by decide +kernel
theorem dX5_readCommand_40 : decode cX5_readCommand 40 = .ok (.iinc 4 1, 3) := by decide +kernel
theorem dX5_readCommand_43 : decode cX5_readCommand 43 = .ok (.goto (-38), 3) := by decide +kernel
theorem dX5_readCommand_46 : decode cX5_readCommand 46 = .ok (.aload_n 0, 1) := by decide +kernel
theorem dX5_readCommand_47 : decode cX5_readCommand 47 = .ok (.iload_n 3, 1) := by decide +kernel
theorem dX5_readCommand_48 : decode cX5_readCommand 48 = .ok (.putfield 36, 3) := by decide +kernel
theorem dX5_readCommand_51 : decode cX5_readCommand 51 = .ok (.iconst 0, 1) := by decide +kernel
theorem dX5_readCommand_52 : decode cX5_readCommand 52 = .ok (.ireturn, 1) := by decide +kernel
theorem dX5_readForm_0 : decode cX5_readForm 0 = .ok (.aload_n 3, 1) := by decide +kernel
theorem dX5_readForm_1 : decode cX5_readForm 1 = .ok (.aload_n 1, 1) := by decide +kernel
theorem dX5_readForm_2 : decode cX5_readForm 2 = .ok (.putfield 57, 3) := by decide +kernel
theorem dX5_readForm_5 : decode cX5_readForm 5 = .ok (.aload_n 3, 1) := by decide +kernel
theorem dX5_readForm_6 : decode cX5_readForm 6 = .ok (.iconst 0, 1) := by decide +kernel
theorem dX5_readForm_7 : decode cX5_readForm 7 = .ok (.putfield 61, 3) := by decide +kernel
theorem dX5_readForm_10 : decode cX5_readForm 10 = .ok (.aload_n 0, 1) := by decide +kernel
theorem dX5_readForm_11 : decode cX5_readForm 11 = .ok (.iload_n 2, 1) := by decide +kernel
theorem dX5_readForm_12 : decode cX5_readForm 12 = .ok (.putfield 36, 3) := by decide +kernel
theorem dX5_readForm_15 : decode cX5_readForm 15 = .ok (.iconst 0, 1) := by decide +kernel
theorem dX5_readForm_16 : decode cX5_readForm 16 = .ok (.istore 4, 2) := by decide +kernel
theorem dX5_readForm_18 : decode cX5_readForm 18 = .ok (.iload 4, 2) := by decide +kernel
theorem dX5_readForm_20 : decode cX5_readForm 20 = .ok (.aload_n 1, 1) := by decide +kernel
theorem dX5_readForm_21 : decode cX5_readForm 21 = .ok (.getfield 64, 3) := by decide +kernel
theorem dX5_readForm_24 : decode cX5_readForm 24 = .ok (.invokevirtual 70, 3) := by decide +kernel
theorem dX5_readForm_27 : decode cX5_readForm 27 = .ok (.if_icmp .ge 69, 3) := by decide +kernel
theorem dX5_readForm_30 : decode cX5_readForm 30 = .ok (.aload_n 1, 1) := by decide +kernel
theorem dX5_readForm_31 : decode cX5_readForm 31 = .ok (.getfield 64, 3) := by decide +kernel
theorem dX5_readForm_34 : decode cX5_readForm 34 = .ok (.iload 4, 2) := by decide +kernel
theorem dX5_readForm_36 : decode cX5_readForm 36 = .ok (.invokevirtual 75, 3) := by decide +kernel
theorem dX5_readForm_39 : decode cX5_readForm 39 = .ok (.istore 5, 2) := by decide +kernel
theorem dX5_readForm_41 : decode cX5_readForm 41 = .ok (.iload 5, 2) := by decide +kernel
theorem dX5_readForm_43 : decode cX5_readForm 43 = .ok (.bipush 35, 2) := by decide +kernel
theorem dX5_readForm_45 : decode cX5_readForm 45 = .ok (.if_icmp .eq 10, 3) := by decide +kernel
theorem dX5_readForm_48 : decode cX5_readForm 48 = .ok (.iload 5, 2) := by decide +kernel
theorem dX5_readForm_50 : decode cX5_readForm 50 = .ok (.bipush 37, 2) := by decide +kernel
theorem dX5_readForm_52 : decode cX5_readForm 52 = .ok (.if_icmp .ne 23, 3) := by decide +kernel
theorem dX5_readForm_55 : decode cX5_readForm 55 = .ok (.aload_n 0, 1) := by decide +kernel
theorem dX5_readForm_56 : decode cX5_readForm 56 = .ok (.iload 5, 2) := by decide +kernel
theorem dX5_readForm_58 : decode cX5_readForm 58 = .ok (.bipush 37, 2) := by decide +kernel
theorem dX5_readForm_60 : decode cX5_readForm 60 = .ok (.if_icmp .ne 7, 3) := by decide +kernel
theorem dX5_readForm_63 : decode cX5_readForm 63 = .ok (.iconst 1, 1) := by decide +kernel
theorem dX5_readForm_64 : decode cX5_readForm 64 = .ok (.goto 4, 3) := by decide +kernel
theorem dX5_readForm_67 : decode cX5_readForm 67 = .ok (.iconst 0, 1) := by decide +kernel
theorem dX5_readForm_68 : decode cX5_readForm 68 = .ok (.aload_n 3, 1) := by decide +kernel
theorem dX5_readForm_69 : decode cX5_readForm 69 = .ok (.invokevirtual 79, 3) := by decide +kernel
theorem dX5_readForm_72 : decode cX5_readForm 72 = .ok (.goto 9, 3) := by decide +kernel
theorem dX5_readForm_75 : decode cX5_readForm 75 = .ok (.aload_n 0, 1) := by decide +kernel
theorem dX5_readForm_76 : decode cX5_readForm 76 = .ok (.iload 5, 2) := by decide +kernel
theorem dX5_readForm_78 : decode cX5_readForm 78 = .ok (.invokevirtual 83, 3) := by decide +kernel
theorem dX5_readForm_81 : decode cX5_readForm 81 = .ok (.istore 6, 2) := by decide +kernel
theorem dX5_readForm_83 : decode cX5_readForm 83 = .ok (.iload 6, 2) := by decide +kernel
theorem dX5_readForm_85 : decode cX5_readForm 85 = .ok (.ifCond .ne 5, 3) := by decide +kernel
theorem dX5_readForm_88 : decode cX5_readForm 88 = .ok (.iconst 0, 1) := by decide +kernel
theorem dX5_readForm_89 : decode cX5_readForm 89 = .ok (.ireturn, 1) := by decide +kernel
theorem dX5_readForm_90 : decode cX5_readForm 90 = .ok (.iinc 4 1, 3) := by decide +kernel
theorem dX5_readForm_93 : decode cX5_readForm 93 = .ok (.goto (-75), 3) := by decide +kernel
theorem dX5_readForm_96 : decode cX5_readForm 96 = .ok (.iconst 1, 1) := by decide +kernel
theorem dX5_readForm_97 : decode cX5_readForm 97 = .ok (.ireturn, 1) := by decide +kernel
theorem dX5_readSign_0 : decode cX5_readSign 0 = .ok (.aload_n 0, 1) := by decide +kernel
theorem dX5_readSign_1 : decode cX5_readSign 1 = .ok (.aload_n 0, 1) := by decide +kernel
theorem dX5_readSign_2 : decode cX5_readSign 2 = .ok (.getfield 36, 3) := by decide +kernel
theorem dX5_readSign_5 : decode cX5_readSign 5 = .ok (.iload_n 1, 1) := by decide +kernel
theorem dX5_readSign_6 : decode cX5_readSign 6 = .ok (.invokevirtual 39, 3) := by decide +kernel
theorem dX5_readSign_9 : decode cX5_readSign 9 = .ok (.ifCond .ne 5, 3) := by decide +kernel
theorem dX5_readSign_12 : decode cX5_readSign 12 = .ok (.iconst 0, 1) := by decide +kernel
theorem dX5_readSign_13 : decode cX5_readSign 13 = .ok (.ireturn, 1) := by decide +kernel
theorem dX5_readSign_14 : decode cX5_readSign 14 = .ok (.aload_n 0, 1) := by decide +kernel
theorem dX5_readSign_15 : decode cX5_readSign 15 = .ok (.dup, 1) := by decide +kernel
theorem dX5_readSign_16 : decode cX5_readSign 16 = .ok (.getfield 36, 3) := by decide +kernel
theorem dX5_readSign_19 : decode cX5_readSign 19 = .ok (.iconst 1, 1) := by decide +kernel
theorem dX5_readSign_20 : decode cX5_readSign 20 = .ok (.iadd, 1) := by decide +kernel
theorem dX5_readSign_21 : decode cX5_readSign 21 = .ok (.putfield 36, 3) := by decide +kernel
theorem dX5_readSign_24 : decode cX5_readSign 24 = .ok (.iconst 1, 1) := by decide +kernel
theorem dX5_readSign_25 : decode cX5_readSign 25 = .ok (.ireturn, 1) := by decide +kernel
theorem dX5_readNumber_0 : decode cX5_readNumber 0 = .ok (.aload_n 0, 1) := by decide +kernel
theorem dX5_readNumber_1 : decode cX5_readNumber 1 = .ok (.aload_n 0, 1) := by decide +kernel
theorem dX5_readNumber_2 : decode cX5_readNumber 2 = .ok (.getfield 36, 3) := by decide +kernel
theorem dX5_readNumber_5 : decode cX5_readNumber 5 = .ok (.invokevirtual 87, 3) := by decide +kernel
theorem dX5_readNumber_8 : decode cX5_readNumber 8 = .ok (.ifCond .ne 5, 3) := by decide +kernel
theorem dX5_readNumber_11 : decode cX5_readNumber 11 = .ok (.iconst 0, 1) := by decide +kernel
theorem dX5_readNumber_12 : decode cX5_readNumber 12 = .ok (.ireturn, 1) := by decide +kernel
theorem dX5_readNumber_13 : decode cX5_readNumber 13 = .ok (.aload_n 0, 1) := by decide +kernel
theorem dX5_readNumber_14 : decode cX5_readNumber 14 = .ok (.aload_n 0, 1) := by decide +kernel
theorem dX5_readNumber_15 : decode cX5_readNumber 15 = .ok (.getfield 36, 3) := by decide +kernel
theorem dX5_readNumber_18 : decode cX5_readNumber 18 = .ok (.invokevirtual 91, 3) := by decide +kernel
theorem dX5_readNumber_21 : decode cX5_readNumber 21 = .ok (.istore_n 3, 1) := by decide +kernel
theorem dX5_readNumber_22 : decode cX5_readNumber 22 = .ok (.aload_n 0, 1) := by decide +kernel
theorem dX5_readNumber_23 : decode cX5_readNumber 23 = .ok (.dup, 1) := by decide +kernel
theorem dX5_readNumber_24 : decode cX5_readNumber 24 = .ok (.getfield 36, 3) := by decide +kernel
theorem dX5_readNumber_27 : decode cX5_readNumber 27 = .ok (.iconst 1, 1) := by decide +kernel
theorem dX5_readNumber_28 : decode cX5_readNumber 28 = .ok (.iadd, 1) := by decide +kernel
theorem dX5_readNumber_29 : decode cX5_readNumber 29 = .ok (.putfield 36, 3) := by decide +kernel
theorem dX5_readNumber_32 : decode cX5_readNumber 32 = .ok (.iload_n 1, 1) := by decide +kernel
theorem dX5_readNumber_33 : decode cX5_readNumber 33 = .ok (.ifCond .eq 38, 3) := by decide +kernel
theorem dX5_readNumber_36 : decode cX5_readNumber 36 = .ok (.aload_n 0, 1) := by decide +kernel
theorem dX5_readNumber_37 : decode cX5_readNumber 37 = .ok (.aload_n 0, 1) := by decide +kernel
theorem dX5_readNumber_38 : decode cX5_readNumber 38 = .ok (.getfield 36, 3) := by decide +kernel
theorem dX5_readNumber_41 : decode cX5_readNumber 41 = .ok (.invokevirtual 87, 3) := by decide +kernel
theorem dX5_readNumber_44 : decode cX5_readNumber 44 = .ok (.ifCond .eq 27, 3) := by decide +kernel
theorem dX5_readNumber_47 : decode cX5_readNumber 47 = .ok (.iload_n 3, 1) := by decide +kernel
theorem dX5_readNumber_48 : decode cX5_readNumber 48 = .ok (.bipush 10, 2) := by decide +kernel
theorem dX5_readNumber_50 : decode cX5_readNumber 50 = .ok (.imul, 1) := by decide +kernel
theorem dX5_readNumber_51 : decode cX5_readNumber 51 = .ok (.aload_n 0, 1) := by decide +kernel
theorem dX5_readNumber_52 : decode cX5_readNumber 52 = .ok (.aload_n 0, 1) := by decide +kernel
theorem dX5_readNumber_53 : decode cX5_readNumber 53 = .ok (.getfield 36, 3) := by decide +kernel
theorem dX5_readNumber_56 : decode cX5_readNumber 56 = .ok (.invokevirtual 91, 3) := by decide +kernel
theorem dX5_readNumber_59 : decode cX5_readNumber 59 = .ok (.iadd, 1) := by decide +kernel
theorem dX5_readNumber_60 : decode cX5_readNumber 60 = .ok (.istore_n 3, 1) := by decide +kernel
theorem dX5_readNumber_61 : decode cX5_readNumber 61 = .ok (.aload_n 0, 1) := by decide +kernel
theorem dX5_readNumber_62 : decode cX5_readNumber 62 = .ok (.dup, 1) := by decide +kernel
theorem dX5_readNumber_63 : decode cX5_readNumber 63 = .ok (.getfield 36, 3) := by decide +kernel
theorem dX5_readNumber_66 : decode cX5_readNumber 66 = .ok (.iconst 1, 1) := by decide +kernel
theorem dX5_readNumber_67 : decode cX5_readNumber 67 = .ok (.iadd, 1) := by decide +kernel
theorem dX5_readNumber_68 : decode cX5_readNumber 68 = .ok (.putfield 36, 3) := by decide +kernel
theorem dX5_readNumber_71 : decode cX5_readNumber 71 = .ok (.aload_n 2, 1) := by decide +kernel
theorem dX5_readNumber_72 : decode cX5_readNumber 72 = .ok (.iload_n 3, 1) := by decide +kernel
theorem dX5_readNumber_73 : decode cX5_readNumber 73 = .ok (.invokevirtual 95, 3) := by decide +kernel
theorem dX5_readNumber_76 : decode cX5_readNumber 76 = .ok (.iconst 1, 1) := by decide +kernel
theorem dX5_readNumber_77 : decode cX5_readNumber 77 = .ok (.ireturn, 1) := by decide +kernel
theorem dX5_isAt_0 : decode cX5_isAt 0 = .ok (.iload_n 1, 1) := by decide +kernel
theorem dX5_isAt_1 : decode cX5_isAt 1 = .ok (.ifCond .lt 25, 3) := by decide +kernel
theorem dX5_isAt_4 : decode cX5_isAt 4 = .ok (.iload_n 1, 1) := by decide +kernel
theorem dX5_isAt_5 : decode cX5_isAt 5 = .ok (.aload_n 0, 1) := by decide +kernel
theorem dX5_isAt_6 : decode cX5_isAt 6 = .ok (.getfield 26, 3) := by decide +kernel
theorem dX5_isAt_9 : decode cX5_isAt 9 = .ok (.if_icmp .ge 17, 3) := by decide +kernel
theorem dX5_isAt_12 : decode cX5_isAt 12 = .ok (.aload_n 0, 1) := by decide +kernel
theorem dX5_isAt_13 : decode cX5_isAt 13 = .ok (.getfield 9, 3) := by decide +kernel
theorem dX5_isAt_16 : decode cX5_isAt 16 = .ok (.iload_n 1, 1) := by decide +kernel
theorem dX5_isAt_17 : decode cX5_isAt 17 = .ok (.caload, 1) := by decide +kernel
theorem dX5_isAt_18 : decode cX5_isAt 18 = .ok (.iload_n 2, 1) := by decide +kernel
theorem dX5_isAt_19 : decode cX5_isAt 19 = .ok (.if_icmp .ne 7, 3) := by decide +kernel
theorem dX5_isAt_22 : decode cX5_isAt 22 = .ok (.iconst 1, 1) := by decide +kernel
theorem dX5_isAt_23 : decode cX5_isAt 23 = .ok (.goto 4, 3) := by decide +kernel
theorem dX5_isAt_26 : decode cX5_isAt 26 = .ok (.iconst 0, 1) := by decide +kernel
theorem dX5_isAt_27 : decode cX5_isAt 27 = .ok (.ireturn, 1) := by decide +kernel
theorem dX5_isDigitAt_0 : decode cX5_isDigitAt 0 = .ok (.iload_n 1, 1) := by decide +kernel
theorem dX5_isDigitAt_1 : decode cX5_isDigitAt 1 = .ok (.ifCond .lt 37, 3) := by decide +kernel
theorem dX5_isDigitAt_4 : decode cX5_isDigitAt 4 = .ok (.iload_n 1, 1) := by decide +kernel
theorem dX5_isDigitAt_5 : decode cX5_isDigitAt 5 = .ok (.aload_n 0, 1) := by decide +kernel
theorem dX5_isDigitAt_6 : decode cX5_isDigitAt 6 = .ok (.getfield 26, 3) := by decide +kernel
theorem dX5_isDigitAt_9 : decode cX5_isDigitAt 9 = .ok (.if_icmp .ge 29, 3) := by decide +kernel
theorem dX5_isDigitAt_12 : decode cX5_isDigitAt 12 = .ok (.aload_n 0, 1) := by decide +kernel
theorem dX5_isDigitAt_13 : decode cX5_isDigitAt 13 = .ok (.getfield 9, 3) := by decide +kernel
theorem dX5_isDigitAt_16 : decode cX5_isDigitAt 16 = .ok (.iload_n 1, 1) := by decide +kernel
theorem dX5_isDigitAt_17 : decode cX5_isDigitAt 17 = .ok (.caload, 1) := by decide +kernel
theorem dX5_isDigitAt_18 : decode cX5_isDigitAt 18 = .ok (.bipush 48, 2) := by decide +kernel
theorem dX5_isDigitAt_20 : decode cX5_isDigitAt 20 = .ok (.if_icmp .lt 18, 3) := by decide +kernel
theorem dX5_isDigitAt_23 : decode cX5_isDigitAt 23 = .ok (.aload_n 0, 1) := by decide +kernel
theorem dX5_isDigitAt_24 : decode cX5_isDigitAt 24 = .ok (.getfield 9, 3) := by decide +kernel
theorem dX5_isDigitAt_27 : decode cX5_isDigitAt 27 = .ok (.iload_n 1, 1) := by decide +kernel
theorem dX5_isDigitAt_28 : decode cX5_isDigitAt 28 = .ok (.caload, 1) := by decide +kernel
theorem dX5_isDigitAt_29 : decode cX5_isDigitAt 29 = .ok (.bipush 57, 2) := by decide +kernel
theorem dX5_isDigitAt_31 : decode cX5_isDigitAt 31 = .ok (.if_icmp .gt 7, 3) := by decide +kernel
theorem dX5_isDigitAt_34 : decode cX5_isDigitAt 34 = .ok (.iconst 1, 1) := by decide +kernel
theorem dX5_isDigitAt_35 : decode cX5_isDigitAt 35 = .ok (.goto 4, 3) := by decide +kernel
theorem dX5_isDigitAt_38 : decode cX5_isDigitAt 38 = .ok (.iconst 0, 1) := by decide +kernel
theorem dX5_isDigitAt_39 : decode cX5_isDigitAt 39 = .ok (.ireturn, 1) := by decide +kernel
theorem dX5_digitAt_0 : decode cX5_digitAt 0 = .ok (.aload_n 0, 1) := by decide +kernel
theorem dX5_digitAt_1 : decode cX5_digitAt 1 = .ok (.iload_n 1, 1) := by decide +kernel
theorem dX5_digitAt_2 : decode cX5_digitAt 2 = .ok (.invokevirtual 87, 3) := by decide +kernel
theorem dX5_digitAt_5 : decode cX5_digitAt 5 = .ok (.ifCond .eq 15, 3) := by decide +kernel
theorem dX5_digitAt_8 : decode cX5_digitAt 8 = .ok (.aload_n 0, 1) := by decide +kernel
theorem dX5_digitAt_9 : decode cX5_digitAt 9 = .ok (.getfield 9, 3) := by decide +kernel
theorem dX5_digitAt_12 : decode cX5_digitAt 12 = .ok (.iload_n 1, 1) := by decide +kernel
theorem dX5_digitAt_13 : decode cX5_digitAt 13 = .ok (.caload, 1) := by decide +kernel
theorem dX5_digitAt_14 : decode cX5_digitAt 14 = .ok (.bipush 48, 2) := by decide +kernel
theorem dX5_digitAt_16 : decode cX5_digitAt 16 = .ok (.isub, 1) := by decide +kernel
theorem dX5_digitAt_17 : decode cX5_digitAt 17 = .ok (.goto 4, 3) := by decide +kernel
theorem dX5_digitAt_20 : decode cX5_digitAt 20 = .ok (.iconst 0, 1) := by decide +kernel
theorem dX5_digitAt_21 : decode cX5_digitAt 21 = .ok (.ireturn, 1) := by decide +kernel
theorem dX7_init_0 : decode cX7_init 0 = .ok (.aload_n 0, 1) := by decide +kernel
theorem dX7_init_1 : decode cX7_init 1 = .ok (.invokespecial 1, 3) := by decide +kernel
theorem dX7_init_4 : decode cX7_init 4 = .ok (.return_, 1) := by decide +kernel
theorem dX7_copyFrom_0 : decode cX7_copyFrom 0 = .ok (.aload_n 0, 1) := by decide +kernel
theorem dX7_copyFrom_1 : decode cX7_copyFrom 1 = .ok (.aload_n 1, 1) := by decide +kernel
theorem dX7_copyFrom_2 : decode cX7_copyFrom 2 = .ok (.getfield 7, 3) := by decide +kernel
theorem dX7_copyFrom_5 : decode cX7_copyFrom 5 = .ok (.putfield 7, 3) := by decide +kernel
theorem dX7_copyFrom_8 : decode cX7_copyFrom 8 = .ok (.aload_n 0, 1) := by decide +kernel
theorem dX7_copyFrom_9 : decode cX7_copyFrom 9 = .ok (.aload_n 1, 1) := by decide +kernel
theorem dX7_copyFrom_10 : decode cX7_copyFrom 10 = .ok (.getfield 13, 3) := by decide +kernel
theorem dX7_copyFrom_13 : decode cX7_copyFrom 13 = .ok (.putfield 13, 3) := by decide +kernel
theorem dX7_copyFrom_16 : decode cX7_copyFrom 16 = .ok (.aload_n 0, 1) := by decide +kernel
theorem dX7_copyFrom_17 : decode cX7_copyFrom 17 = .ok (.aload_n 1, 1) := by decide +kernel
theorem dX7_copyFrom_18 : decode cX7_copyFrom 18 = .ok (.getfield 17, 3) := by decide +kernel
theorem dX7_copyFrom_21 : decode cX7_copyFrom 21 = .ok (.putfield 17, 3) := by decide +kernel
theorem dX7_copyFrom_24 : decode cX7_copyFrom 24 = .ok (.aload_n 0, 1) := by decide +kernel
theorem dX7_copyFrom_25 : decode cX7_copyFrom 25 = .ok (.aload_n 1, 1) := by decide +kernel
theorem dX7_copyFrom_26 : decode cX7_copyFrom 26 = .ok (.getfield 20, 3) := by decide +kernel
theorem dX7_copyFrom_29 : decode cX7_copyFrom 29 = .ok (.putfield 20, 3) := by decide +kernel
theorem dX7_copyFrom_32 : decode cX7_copyFrom 32 = .ok (.return_, 1) := by decide +kernel
theorem dX8_init_0 : decode cX8_init 0 = .ok (.aload_n 0, 1) := by decide +kernel
theorem dX8_init_1 : decode cX8_init 1 = .ok (.invokespecial 3, 3) := by decide +kernel
theorem dX8_init_4 : decode cX8_init 4 = .ok (.aload_n 0, 1) := by decide +kernel
theorem dX8_init_5 : decode cX8_init 5 = .ok (.bipush 9, 2) := by decide +kernel
theorem dX8_init_7 : decode cX8_init 7 = .ok (.anewarray 9, 3) := by decide +kernel
theorem dX8_init_10 : decode cX8_init 10 = .ok (.putfield 11, 3) := by decide +kernel
theorem dX8_init_13 : decode cX8_init 13 = .ok (.iconst 0, 1) := by decide +kernel
theorem dX8_init_14 : decode cX8_init 14 = .ok (.istore_n 1, 1) := by decide +kernel
theorem dX8_init_15 : decode cX8_init 15 = .ok (.iload_n 1, 1) := by decide +kernel
theorem dX8_init_16 : decode cX8_init 16 = .ok (.bipush 8, 2) := by decide +kernel
theorem dX8_init_18 : decode cX8_init 18 = .ok (.if_icmp .gt 22, 3) := by decide +kernel
theorem dX8_init_21 : decode cX8_init 21 = .ok (.aload_n 0, 1) := by decide +kernel
theorem dX8_init_22 : decode cX8_init 22 = .ok (.getfield 11, 3) := by decide +kernel
theorem dX8_init_25 : decode cX8_init 25 = .ok (.iload_n 1, 1) := by decide +kernel
theorem dX8_init_26 : decode cX8_init 26 = .ok (.new 9, 3) := by decide +kernel
theorem dX8_init_29 : decode cX8_init 29 = .ok (.dup, 1) := by decide +kernel
theorem dX8_init_30 : decode cX8_init 30 = .ok (.invokespecial 17, 3) := by decide +kernel
theorem dX8_init_33 : decode cX8_init 33 = .ok (.aastore, 1) := by decide +kernel
theorem dX8_init_34 : decode cX8_init 34 = .ok (.iinc 1 1, 3) := by decide +kernel
theorem dX8_init_37 : decode cX8_init 37 = .ok (.goto (-22), 3) := by decide +kernel
theorem dX8_init_40 : decode cX8_init 40 = .ok (.return_, 1) := by decide +kernel
theorem dX8_prepare_0 : decode cX8_prepare 0 = .ok (.aload_n 0, 1) := by decide +kernel
theorem dX8_prepare_1 : decode cX8_prepare 1 = .ok (.getfield 11, 3) := by decide +kernel
theorem dX8_prepare_4 : decode cX8_prepare 4 = .ok (.aload_n 0, 1) := by decide +kernel
theorem dX8_prepare_5 : decode cX8_prepare 5 = .ok (.getfield 18, 3) := by decide +kernel
theorem dX8_prepare_8 : decode cX8_prepare 8 = .ok (.aaload, 1) := by decide +kernel
theorem dX8_prepare_9 : decode cX8_prepare 9 = .ok (.aload_n 1, 1) := by decide +kernel
theorem dX8_prepare_10 : decode cX8_prepare 10 = .ok (.invokevirtual 22, 3) := by decide +kernel
theorem dX8_prepare_13 : decode cX8_prepare 13 = .ok (.return_, 1) := by decide +kernel
theorem dX8_copyPreparedTo_0 : decode cX8_copyPreparedTo 0 = .ok (.aload_n 1, 1) := by decide +kernel
theorem dX8_copyPreparedTo_1 : decode cX8_copyPreparedTo 1 = .ok (.aload_n 0, 1) := by decide +kernel
theorem dX8_copyPreparedTo_2 : decode cX8_copyPreparedTo 2 = .ok (.getfield 11, 3) := by decide +kernel
theorem dX8_copyPreparedTo_5 : decode cX8_copyPreparedTo 5 = .ok (.aload_n 0, 1) := by decide +kernel
theorem dX8_copyPreparedTo_6 : decode cX8_copyPreparedTo 6 = .ok (.getfield 18, 3) := by decide +kernel
theorem dX8_copyPreparedTo_9 : decode cX8_copyPreparedTo 9 = .ok (.aaload, 1) := by decide +kernel
theorem dX8_copyPreparedTo_10 : decode cX8_copyPreparedTo 10 = .ok (.invokevirtual 22, 3) := by decide +kernel
theorem dX8_copyPreparedTo_13 : decode cX8_copyPreparedTo 13 = .ok (.return_, 1) := by decide +kernel
theorem dX8_keep_0 : decode cX8_keep 0 = .ok (.aload_n 0, 1) := by decide +kernel
theorem dX8_keep_1 : decode cX8_keep 1 = .ok (.aload_n 0, 1) := by decide +kernel
theorem dX8_keep_2 : decode cX8_keep 2 = .ok (.getfield 18, 3) := by decide +kernel
theorem dX8_keep_5 : decode cX8_keep 5 = .ok (.bipush 8, 2) := by decide +kernel
theorem dX8_keep_7 : decode cX8_keep 7 = .ok (.if_icmp .ne 7, 3) := by decide +kernel
theorem dX8_keep_10 : decode cX8_keep 10 = .ok (.iconst 0, 1) := by decide +kernel
theorem dX8_keep_11 : decode cX8_keep 11 = .ok (.goto 9, 3) := by decide +kernel
theorem dX8_keep_14 : decode cX8_keep 14 = .ok (.aload_n 0, 1) := by decide +kernel
theorem dX8_keep_15 : decode cX8_keep 15 = .ok (.getfield 18, 3) := by decide +kernel
theorem dX8_keep_18 : decode cX8_keep 18 = .ok (.iconst 1, 1) := by decide +kernel
theorem dX8_keep_19 : decode cX8_keep 19 = .ok (.iadd, 1) := by decide +kernel
theorem dX8_keep_20 : decode cX8_keep 20 = .ok (.putfield 18, 3) := by decide +kernel
theorem dX8_keep_23 : decode cX8_keep 23 = .ok (.aload_n 0, 1) := by decide +kernel
theorem dX8_keep_24 : decode cX8_keep 24 = .ok (.aload_n 0, 1) := by decide +kernel
theorem dX8_keep_25 : decode cX8_keep 25 = .ok (.getfield 26, 3) := by decide +kernel
theorem dX8_keep_28 : decode cX8_keep 28 = .ok (.iconst 1, 1) := by decide +kernel
theorem dX8_keep_29 : decode cX8_keep 29 = .ok (.iadd, 1) := by decide +kernel
theorem dX8_keep_30 : decode cX8_keep 30 = .ok (.bipush 8, 2) := by decide +kernel
theorem dX8_keep_32 : decode cX8_keep 32 = .ok (.invokestatic 29, 3) := by decide +kernel
theorem dX8_keep_35 : decode cX8_keep 35 = .ok (.putfield 26, 3) := by decide +kernel
theorem dX8_keep_38 : decode cX8_keep 38 = .ok (.return_, 1) := by decide +kernel
theorem dX8_takeBack_0 : decode cX8_takeBack 0 = .ok (.aload_n 0, 1) := by decide +kernel
theorem dX8_takeBack_1 : decode cX8_takeBack 1 = .ok (.getfield 26, 3) := by decide +kernel
theorem dX8_takeBack_4 : decode cX8_takeBack 4 = .ok (.ifCond .ne 5, 3) := by decide +kernel
theorem dX8_takeBack_7 : decode cX8_takeBack 7 = .ok (.iconst 0, 1) := by decide +kernel
theorem dX8_takeBack_8 : decode cX8_takeBack 8 = .ok (.ireturn, 1) := by decide +kernel
theorem dX8_takeBack_9 : decode cX8_takeBack 9 = .ok (.aload_n 0, 1) := by decide +kernel
theorem dX8_takeBack_10 : decode cX8_takeBack 10 = .ok (.dup, 1) := by decide +kernel
theorem dX8_takeBack_11 : decode cX8_takeBack 11 = .ok (.getfield 26, 3) := by decide +kernel
theorem dX8_takeBack_14 : decode cX8_takeBack 14 = .ok (.iconst 1, 1) := by decide +kernel
theorem dX8_takeBack_15 : decode cX8_takeBack 15 = .ok (.isub, 1) := by decide +kernel
theorem dX8_takeBack_16 : decode cX8_takeBack 16 = .ok (.putfield 26, 3) := by decide +kernel
theorem dX8_takeBack_19 : decode cX8_takeBack 19 = .ok (.aload_n 0, 1) := by decide +kernel
theorem dX8_takeBack_20 : decode cX8_takeBack 20 = .ok (.aload_n 0, 1) := by decide +kernel
theorem dX8_takeBack_21 : decode cX8_takeBack 21 = .ok (.getfield 18, 3) := by decide +kernel
theorem dX8_takeBack_24 : decode cX8_takeBack 24 = .ok (.ifCond .ne 8, 3) := by decide +kernel
theorem dX8_takeBack_27 : decode cX8_takeBack 27 = .ok (.bipush 8, 2) := by decide +kernel
theorem dX8_takeBack_29 : decode cX8_takeBack 29 = .ok (.goto 9, 3) := by decide +kernel
theorem dX8_takeBack_32 : decode cX8_takeBack 32 = .ok (.aload_n 0, 1) := by decide +kernel
theorem dX8_takeBack_33 : decode cX8_takeBack 33 = .ok (.getfield 18, 3) := by decide +kernel
theorem dX8_takeBack_36 : decode cX8_takeBack 36 = .ok (.iconst 1, 1) := by decide +kernel
theorem dX8_takeBack_37 : decode cX8_takeBack 37 = .ok (.isub, 1) := by decide +kernel
theorem dX8_takeBack_38 : decode cX8_takeBack 38 = .ok (.putfield 18, 3) := by decide +kernel
theorem dX8_takeBack_41 : decode cX8_takeBack 41 = .ok (.aload_n 1, 1) := by decide +kernel
theorem dX8_takeBack_42 : decode cX8_takeBack 42 = .ok (.aload_n 0, 1) := by decide +kernel
theorem dX8_takeBack_43 : decode cX8_takeBack 43 = .ok (.getfield 11, 3) := by decide +kernel
theorem dX8_takeBack_46 : decode cX8_takeBack 46 = .ok (.aload_n 0, 1) := by decide +kernel
theorem dX8_takeBack_47 : decode cX8_takeBack 47 = .ok (.getfield 18, 3) := by decide +kernel
theorem dX8_takeBack_50 : decode cX8_takeBack 50 = .ok (.aaload, 1) := by decide +kernel
theorem dX8_takeBack_51 : decode cX8_takeBack 51 = .ok (.invokevirtual 22, 3) := by decide +kernel
theorem dX8_takeBack_54 : decode cX8_takeBack 54 = .ok (.iconst 1, 1) := by decide +kernel
theorem dX8_takeBack_55 : decode cX8_takeBack 55 = .ok (.ireturn, 1) := by decide +kernel
theorem dX9_init_0 : decode cX9_init 0 = .ok (.aload_n 0, 1) := by decide +kernel
theorem dX9_init_1 : decode cX9_init 1 = .ok (.invokespecial 3, 3) := by decide +kernel
theorem dX9_init_4 : decode cX9_init 4 = .ok (.aload_n 0, 1) := by decide +kernel
theorem dX9_init_5 : decode cX9_init 5 = .ok (.bipush 40, 2) := by decide +kernel
theorem dX9_init_7 : decode cX9_init 7 = .ok (.newarray .int, 2) := by decide +kernel
theorem dX9_init_9 : decode cX9_init 9 = .ok (.putfield 9, 3) := by decide +kernel
theorem dX9_init_12 : decode cX9_init 12 = .ok (.return_, 1) := by decide +kernel
theorem dX9_copyFrom_0 : decode cX9_copyFrom 0 = .ok (.aload_n 0, 1) := by decide +kernel
theorem dX9_copyFrom_1 : decode cX9_copyFrom 1 = .ok (.aload_n 1, 1) := by decide +kernel
theorem dX9_copyFrom_2 : decode cX9_copyFrom 2 = .ok (.getfield 15, 3) := by decide +kernel
theorem dX9_copyFrom_5 : decode cX9_copyFrom 5 = .ok (.putfield 15, 3) := by decide +kernel
theorem dX9_copyFrom_8 : decode cX9_copyFrom 8 = .ok (.aload_n 0, 1) := by decide +kernel
theorem dX9_copyFrom_9 : decode cX9_copyFrom 9 = .ok (.aload_n 1, 1) := by decide +kernel
theorem dX9_copyFrom_10 : decode cX9_copyFrom 10 = .ok (.getfield 19, 3) := by decide +kernel
theorem dX9_copyFrom_13 : decode cX9_copyFrom 13 = .ok (.putfield 19, 3) := by decide +kernel
theorem dX9_copyFrom_16 : decode cX9_copyFrom 16 = .ok (.aload_n 0, 1) := by decide +kernel
theorem dX9_copyFrom_17 : decode cX9_copyFrom 17 = .ok (.aload_n 1, 1) := by decide +kernel
theorem dX9_copyFrom_18 : decode cX9_copyFrom 18 = .ok (.getfield 22, 3) := by decide +kernel
theorem dX9_copyFrom_21 : decode cX9_copyFrom 21 = .ok (.putfield 22, 3) := by decide +kernel
theorem dX9_copyFrom_24 : decode cX9_copyFrom 24 = .ok (.aload_n 0, 1) := by decide +kernel
theorem dX9_copyFrom_25 : decode cX9_copyFrom 25 = .ok (.aload_n 1, 1) := by decide +kernel
theorem dX9_copyFrom_26 : decode cX9_copyFrom 26 = .ok (.getfield 25, 3) := by decide +kernel
theorem dX9_copyFrom_29 : decode cX9_copyFrom 29 = .ok (.putfield 25, 3) := by decide +kernel
theorem dX9_copyFrom_32 : decode cX9_copyFrom 32 = .ok (.aload_n 0, 1) := by decide +kernel
theorem dX9_copyFrom_33 : decode cX9_copyFrom 33 = .ok (.aload_n 1, 1) := by decide +kernel
theorem dX9_copyFrom_34 : decode cX9_copyFrom 34 = .ok (.getfield 28, 3) := by decide +kernel
theorem dX9_copyFrom_37 : decode cX9_copyFrom 37 = .ok (.putfield 28, 3) := by decide +kernel
theorem dX9_copyFrom_40 : decode cX9_copyFrom 40 = .ok (.aload_n 0, 1) := by decide +kernel
theorem dX9_copyFrom_41 : decode cX9_copyFrom 41 = .ok (.aload_n 1, 1) := by decide +kernel
theorem dX9_copyFrom_42 : decode cX9_copyFrom 42 = .ok (.getfield 32, 3) := by decide +kernel
theorem dX9_copyFrom_45 : decode cX9_copyFrom 45 = .ok (.putfield 32, 3) := by decide +kernel
theorem dX9_copyFrom_48 : decode cX9_copyFrom 48 = .ok (.aload_n 0, 1) := by decide +kernel
theorem dX9_copyFrom_49 : decode cX9_copyFrom 49 = .ok (.aload_n 1, 1) := by decide +kernel
theorem dX9_copyFrom_50 : decode cX9_copyFrom 50 = .ok (.getfield 35, 3) := by decide +kernel
theorem dX9_copyFrom_53 : decode cX9_copyFrom 53 = .ok (.putfield 35, 3) := by decide +kernel
theorem dX9_copyFrom_56 : decode cX9_copyFrom 56 = .ok (.aload_n 1, 1) := by decide +kernel
theorem dX9_copyFrom_57 : decode cX9_copyFrom 57 = .ok (.getfield 9, 3) := by decide +kernel
theorem dX9_copyFrom_60 : decode cX9_copyFrom 60 = .ok (.iconst 0, 1) := by decide +kernel
theorem dX9_copyFrom_61 : decode cX9_copyFrom 61 = .ok (.aload_n 0, 1) := by decide +kernel
theorem dX9_copyFrom_62 : decode cX9_copyFrom 62 = .ok (.getfield 9, 3) := by decide +kernel
theorem dX9_copyFrom_65 : decode cX9_copyFrom 65 = .ok (.iconst 0, 1) := by decide +kernel
theorem dX9_copyFrom_66 : decode cX9_copyFrom 66 = .ok (.bipush 40, 2) := by decide +kernel
theorem dX9_copyFrom_68 : decode cX9_copyFrom 68 = .ok (.invokestatic 38, 3) := by decide +kernel
theorem dX9_copyFrom_71 : decode cX9_copyFrom 71 = .ok (.return_, 1) := by decide +kernel
theorem dX9_noteHeard_0 : decode cX9_noteHeard 0 = .ok (.iload_n 1, 1) := by decide +kernel
theorem dX9_noteHeard_1 : decode cX9_noteHeard 1 = .ok (.iload_n 2, 1) := by decide +kernel
theorem dX9_noteHeard_2 : decode cX9_noteHeard 2 = .ok (.invokestatic 44, 3) := by decide +kernel
theorem dX9_noteHeard_5 : decode cX9_noteHeard 5 = .ok (.ifCond .eq 15, 3) := by decide +kernel
theorem dX9_noteHeard_8 : decode cX9_noteHeard 8 = .ok (.aload_n 0, 1) := by decide +kernel
theorem dX9_noteHeard_9 : decode cX9_noteHeard 9 = .ok (.getfield 9, 3) := by decide +kernel
theorem dX9_noteHeard_12 : decode cX9_noteHeard 12 = .ok (.iload_n 1, 1) := by decide +kernel
theorem dX9_noteHeard_13 : decode cX9_noteHeard 13 = .ok (.bipush 8, 2) := by decide +kernel
theorem dX9_noteHeard_15 : decode cX9_noteHeard 15 = .ok (.imul, 1) := by decide +kernel
theorem dX9_noteHeard_16 : decode cX9_noteHeard 16 = .ok (.iload_n 2, 1) := by decide +kernel
theorem dX9_noteHeard_17 : decode cX9_noteHeard 17 = .ok (.iadd, 1) := by decide +kernel
theorem dX9_noteHeard_18 : decode cX9_noteHeard 18 = .ok (.iload_n 3, 1) := by decide +kernel
theorem dX9_noteHeard_19 : decode cX9_noteHeard 19 = .ok (.iastore, 1) := by decide +kernel
theorem dX9_noteHeard_20 : decode cX9_noteHeard 20 = .ok (.return_, 1) := by decide +kernel
theorem dX9_tickHeard_0 : decode cX9_tickHeard 0 = .ok (.iload_n 1, 1) := by decide +kernel
theorem dX9_tickHeard_1 : decode cX9_tickHeard 1 = .ok (.iload_n 2, 1) := by decide +kernel
theorem dX9_tickHeard_2 : decode cX9_tickHeard 2 = .ok (.invokestatic 44, 3) := by decide +kernel
theorem dX9_tickHeard_5 : decode cX9_tickHeard 5 = .ok (.ifCond .eq 17, 3) := by decide +kernel
theorem dX9_tickHeard_8 : decode cX9_tickHeard 8 = .ok (.aload_n 0, 1) := by decide +kernel
theorem dX9_tickHeard_9 : decode cX9_tickHeard 9 = .ok (.getfield 9, 3) := by decide +kernel
theorem dX9_tickHeard_12 : decode cX9_tickHeard 12 = .ok (.iload_n 1, 1) := by decide +kernel
theorem dX9_tickHeard_13 : decode cX9_tickHeard 13 = .ok (.bipush 8, 2) := by decide +kernel
theorem dX9_tickHeard_15 : decode cX9_tickHeard 15 = .ok (.imul, 1) := by decide +kernel
theorem dX9_tickHeard_16 : decode cX9_tickHeard 16 = .ok (.iload_n 2, 1) := by decide +kernel
theorem dX9_tickHeard_17 : decode cX9_tickHeard 17 = .ok (.iadd, 1) := by decide +kernel
theorem dX9_tickHeard_18 : decode cX9_tickHeard 18 = .ok (.iaload, 1) := by decide +kernel
theorem dX9_tickHeard_19 : decode cX9_tickHeard 19 = .ok (.goto 4, 3) := by decide +kernel
theorem dX9_tickHeard_22 : decode cX9_tickHeard 22 = .ok (.iconst (-1), 1) := by decide +kernel
theorem dX9_tickHeard_23 : decode cX9_tickHeard 23 = .ok (.ireturn, 1) := by decide +kernel
theorem dX9_isSlot_0 : decode cX9_isSlot 0 = .ok (.iload_n 0, 1) := by decide +kernel
theorem dX9_isSlot_1 : decode cX9_isSlot 1 = .ok (.ifCond .lt 22, 3) := by decide +kernel
theorem dX9_isSlot_4 : decode cX9_isSlot 4 = .ok (.iload_n 0, 1) := by decide +kernel
theorem dX9_isSlot_5 : decode cX9_isSlot 5 = .ok (.iconst 5, 1) := by decide +kernel
theorem dX9_isSlot_6 : decode cX9_isSlot 6 = .ok (.if_icmp .ge 17, 3) := by decide +kernel
theorem dX9_isSlot_9 : decode cX9_isSlot 9 = .ok (.iload_n 1, 1) := by decide +kernel
theorem dX9_isSlot_10 : decode cX9_isSlot 10 = .ok (.ifCond .lt 13, 3) := by decide +kernel
theorem dX9_isSlot_13 : decode cX9_isSlot 13 = .ok (.iload_n 1, 1) := by decide +kernel
theorem dX9_isSlot_14 : decode cX9_isSlot 14 = .ok (.bipush 8, 2) := by decide +kernel
theorem dX9_isSlot_16 : decode cX9_isSlot 16 = .ok (.if_icmp .ge 7, 3) := by decide +kernel
theorem dX9_isSlot_19 : decode cX9_isSlot 19 = .ok (.iconst 1, 1) := by decide +kernel
theorem dX9_isSlot_20 : decode cX9_isSlot 20 = .ok (.goto 4, 3) := by decide +kernel
theorem dX9_isSlot_23 : decode cX9_isSlot 23 = .ok (.iconst 0, 1) := by decide +kernel
theorem dX9_isSlot_24 : decode cX9_isSlot 24 = .ok (.ireturn, 1) := by decide +kernel
theorem dX9_begin_0 : decode cX9_begin 0 = .ok (.aload_n 0, 1) := by decide +kernel
theorem dX9_begin_1 : decode cX9_begin 1 = .ok (.bipush 100, 2) := by decide +kernel
theorem dX9_begin_3 : decode cX9_begin 3 = .ok (.putfield 28, 3) := by decide +kernel
theorem dX9_begin_6 : decode cX9_begin 6 = .ok (.aload_n 0, 1) := by decide +kernel
theorem dX9_begin_7 : decode cX9_begin 7 = .ok (.iconst 0, 1) := by decide +kernel
theorem dX9_begin_8 : decode cX9_begin 8 = .ok (.putfield 35, 3) := by decide +kernel
theorem dX9_begin_11 : decode cX9_begin 11 = .ok (.return_, 1) := by decide +kernel
theorem dX9_arrive_0 : decode cX9_arrive 0 = .ok (.aload_n 0, 1) := by decide +kernel
theorem dX9_arrive_1 : decode cX9_arrive 1 = .ok (.bipush 114, 2) := by decide +kernel
theorem dX9_arrive_3 : decode cX9_arrive 3 = .ok (.putfield 28, 3) := by decide +kernel
theorem dX9_arrive_6 : decode cX9_arrive 6 = .ok (.aload_n 0, 1) := by decide +kernel
theorem dX9_arrive_7 : decode cX9_arrive 7 = .ok (.iconst 0, 1) := by decide +kernel
theorem dX9_arrive_8 : decode cX9_arrive 8 = .ok (.putfield 35, 3) := by decide +kernel
theorem dX9_arrive_11 : decode cX9_arrive 11 = .ok (.return_, 1) := by decide +kernel
theorem dX9_lose_0 : decode cX9_lose 0 = .ok (.aload_n 0, 1) := by decide +kernel
theorem dX9_lose_1 : decode cX9_lose 1 = .ok (.dup, 1) := by decide +kernel
theorem dX9_lose_2 : decode cX9_lose 2 = .ok (.getfield 32, 3) := by decide +kernel
theorem dX9_lose_5 : decode cX9_lose 5 = .ok (.iconst 1, 1) := by decide +kernel
theorem dX9_lose_6 : decode cX9_lose 6 = .ok (.iadd, 1) := by decide +kernel
theorem dX9_lose_7 : decode cX9_lose 7 = .ok (.putfield 32, 3) := by decide +kernel
theorem dX9_lose_10 : decode cX9_lose 10 = .ok (.aload_n 0, 1) := by decide +kernel
theorem dX9_lose_11 : decode cX9_lose 11 = .ok (.aload_n 0, 1) := by decide +kernel
theorem dX9_lose_12 : decode cX9_lose 12 = .ok (.getfield 32, 3) := by decide +kernel
theorem dX9_lose_15 : decode cX9_lose 15 = .ok (.iconst 3, 1) := by decide +kernel
theorem dX9_lose_16 : decode cX9_lose 16 = .ok (.if_icmp .ge 8, 3) := by decide +kernel
theorem dX9_lose_19 : decode cX9_lose 19 = .ok (.bipush 119, 2) := by decide +kernel
theorem dX9_lose_21 : decode cX9_lose 21 = .ok (.goto 5, 3) := by decide +kernel
theorem dX9_lose_24 : decode cX9_lose 24 = .ok (.bipush 108, 2) := by decide +kernel
theorem dX9_lose_26 : decode cX9_lose 26 = .ok (.putfield 28, 3) := by decide +kernel
theorem dX9_lose_29 : decode cX9_lose 29 = .ok (.aload_n 0, 1) := by decide +kernel
theorem dX9_lose_30 : decode cX9_lose 30 = .ok (.iconst 0, 1) := by decide +kernel
theorem dX9_lose_31 : decode cX9_lose 31 = .ok (.putfield 35, 3) := by decide +kernel
theorem dX9_lose_34 : decode cX9_lose 34 = .ok (.return_, 1) := by decide +kernel
theorem dX10_init_0 : decode cX10_init 0 = .ok (.aload_n 0, 1) := by decide +kernel
theorem dX10_init_1 : decode cX10_init 1 = .ok (.invokespecial 3, 3) := by decide +kernel
theorem dX10_init_4 : decode cX10_init 4 = .ok (.aload_n 0, 1) := by decide +kernel
theorem dX10_init_5 : decode cX10_init 5 = .ok (.new 9, 3) := by decide +kernel
theorem dX10_init_8 : decode cX10_init 8 = .ok (.dup, 1) := by decide +kernel
theorem dX10_init_9 : decode cX10_init 9 = .ok (.invokespecial 11, 3) := by decide +kernel
theorem dX10_init_12 : decode cX10_init 12 = .ok (.putfield 12, 3) := by decide +kernel
theorem dX10_init_15 : decode cX10_init 15 = .ok (.aload_n 0, 1) := by decide +kernel
theorem dX10_init_16 : decode cX10_init 16 = .ok (.bipush 6, 2) := by decide +kernel
theorem dX10_init_18 : decode cX10_init 18 = .ok (.anewarray 18, 3) := by decide +kernel
theorem dX10_init_21 : decode cX10_init 21 = .ok (.putfield 20, 3) := by decide +kernel
theorem dX10_init_24 : decode cX10_init 24 = .ok (.aload_n 0, 1) := by decide +kernel
theorem dX10_init_25 : decode cX10_init 25 = .ok (.bipush 8, 2) := by decide +kernel
theorem dX10_init_27 : decode cX10_init 27 = .ok (.anewarray 24, 3) := by decide +kernel
theorem dX10_init_30 : decode cX10_init 30 = .ok (.putfield 26, 3) := by decide +kernel
theorem dX10_init_33 : decode cX10_init 33 = .ok (.aload_n 0, 1) := by decide +kernel
theorem dX10_init_34 : decode cX10_init 34 = .ok (.new 30, 3) := by decide +kernel
theorem dX10_init_37 : decode cX10_init 37 = .ok (.dup, 1) := by decide +kernel
theorem dX10_init_38 : decode cX10_init 38 = .ok (.invokespecial 32, 3) := by decide +kernel
theorem dX10_init_41 : decode cX10_init 41 = .ok (.putfield 33, 3) := by decide +kernel
theorem dX10_init_44 : decode cX10_init 44 = .ok (.iconst 0, 1) := by decide +kernel
theorem dX10_init_45 : decode cX10_init 45 = .ok (.istore_n 1, 1) := by decide +kernel
theorem dX10_init_46 : decode cX10_init 46 = .ok (.iload_n 1, 1) := by decide +kernel
theorem dX10_init_47 : decode cX10_init 47 = .ok (.bipush 6, 2) := by decide +kernel
theorem dX10_init_49 : decode cX10_init 49 = .ok (.if_icmp .ge 22, 3) := by decide +kernel
theorem dX10_init_52 : decode cX10_init 52 = .ok (.aload_n 0, 1) := by decide +kernel
theorem dX10_init_53 : decode cX10_init 53 = .ok (.getfield 20, 3) := by decide +kernel
theorem dX10_init_56 : decode cX10_init 56 = .ok (.iload_n 1, 1) := by decide +kernel
theorem dX10_init_57 : decode cX10_init 57 = .ok (.new 18, 3) := by decide +kernel
theorem dX10_init_60 : decode cX10_init 60 = .ok (.dup, 1) := by decide +kernel
theorem dX10_init_61 : decode cX10_init 61 = .ok (.invokespecial 37, 3) := by decide +kernel
theorem dX10_init_64 : decode cX10_init 64 = .ok (.aastore, 1) := by decide +kernel
theorem dX10_init_65 : decode cX10_init 65 = .ok (.iinc 1 1, 3) := by decide +kernel
theorem dX10_init_68 : decode cX10_init 68 = .ok (.goto (-22), 3) := by decide +kernel
theorem dX10_init_71 : decode cX10_init 71 = .ok (.iconst 0, 1) := by decide +kernel
theorem dX10_init_72 : decode cX10_init 72 = .ok (.istore_n 1, 1) := by decide +kernel
theorem dX10_init_73 : decode cX10_init 73 = .ok (.iload_n 1, 1) := by decide +kernel
theorem dX10_init_74 : decode cX10_init 74 = .ok (.bipush 8, 2) := by decide +kernel
theorem dX10_init_76 : decode cX10_init 76 = .ok (.if_icmp .ge 22, 3) := by decide +kernel
theorem dX10_init_79 : decode cX10_init 79 = .ok (.aload_n 0, 1) := by decide +kernel
theorem dX10_init_80 : decode cX10_init 80 = .ok (.getfield 26, 3) := by decide +kernel
theorem dX10_init_83 : decode cX10_init 83 = .ok (.iload_n 1, 1) := by decide +kernel
theorem dX10_init_84 : decode cX10_init 84 = .ok (.new 24, 3) := by decide +kernel
theorem dX10_init_87 : decode cX10_init 87 = .ok (.dup, 1) := by decide +kernel
theorem dX10_init_88 : decode cX10_init 88 = .ok (.invokespecial 38, 3) := by decide +kernel
theorem dX10_init_91 : decode cX10_init 91 = .ok (.aastore, 1) := by decide +kernel
theorem dX10_init_92 : decode cX10_init 92 = .ok (.iinc 1 1, 3) := by decide +kernel
theorem dX10_init_95 : decode cX10_init 95 = .ok (.goto (-22), 3) := by decide +kernel
theorem dX10_init_98 : decode cX10_init 98 = .ok (.return_, 1) := by decide +kernel
theorem dX10_copyFrom_0 : decode cX10_copyFrom 0 = .ok (.aload_n 0, 1) := by decide +kernel
theorem dX10_copyFrom_1 : decode cX10_copyFrom 1 = .ok (.getfield 12, 3) := by decide +kernel
theorem dX10_copyFrom_4 : decode cX10_copyFrom 4 = .ok (.aload_n 1, 1) := by decide +kernel
theorem dX10_copyFrom_5 : decode cX10_copyFrom 5 = .ok (.getfield 12, 3) := by decide +kernel
theorem dX10_copyFrom_8 : decode cX10_copyFrom 8 = .ok (.invokevirtual 39, 3) := by decide +kernel
theorem dX10_copyFrom_11 : decode cX10_copyFrom 11 = .ok (.aload_n 0, 1) := by decide +kernel
theorem dX10_copyFrom_12 : decode cX10_copyFrom 12 = .ok (.aload_n 1, 1) := by decide +kernel
theorem dX10_copyFrom_13 : decode cX10_copyFrom 13 = .ok (.getfield 43, 3) := by decide +kernel
theorem dX10_copyFrom_16 : decode cX10_copyFrom 16 = .ok (.putfield 43, 3) := by decide +kernel
theorem dX10_copyFrom_19 : decode cX10_copyFrom 19 = .ok (.iconst 0, 1) := by decide +kernel
theorem dX10_copyFrom_20 : decode cX10_copyFrom 20 = .ok (.istore_n 2, 1) := by decide +kernel
theorem dX10_copyFrom_21 : decode cX10_copyFrom 21 = .ok (.iload_n 2, 1) := by decide +kernel
theorem dX10_copyFrom_22 : decode cX10_copyFrom 22 = .ok (.aload_n 0, 1) := by decide +kernel
theorem dX10_copyFrom_23 : decode cX10_copyFrom 23 = .ok (.getfield 43, 3) := by decide +kernel
theorem dX10_copyFrom_26 : decode cX10_copyFrom 26 = .ok (.if_icmp .ge 24, 3) := by decide +kernel
theorem dX10_copyFrom_29 : decode cX10_copyFrom 29 = .ok (.aload_n 0, 1) := by decide +kernel
theorem dX10_copyFrom_30 : decode cX10_copyFrom 30 = .ok (.getfield 20, 3) := by decide +kernel
theorem dX10_copyFrom_33 : decode cX10_copyFrom 33 = .ok (.iload_n 2, 1) := by decide +kernel
theorem dX10_copyFrom_34 : decode cX10_copyFrom 34 = .ok (.aaload, 1) := by decide +kernel
theorem dX10_copyFrom_35 : decode cX10_copyFrom 35 = .ok (.aload_n 1, 1) := by decide +kernel
theorem dX10_copyFrom_36 : decode cX10_copyFrom 36 = .ok (.getfield 20, 3) := by decide +kernel
theorem dX10_copyFrom_39 : decode cX10_copyFrom 39 = .ok (.iload_n 2, 1) := by decide +kernel
theorem dX10_copyFrom_40 : decode cX10_copyFrom 40 = .ok (.aaload, 1) := by decide +kernel
theorem dX10_copyFrom_41 : decode cX10_copyFrom 41 = .ok (.invokevirtual 47, 3) := by decide +kernel
theorem dX10_copyFrom_44 : decode cX10_copyFrom 44 = .ok (.iinc 2 1, 3) := by decide +kernel
theorem dX10_copyFrom_47 : decode cX10_copyFrom 47 = .ok (.goto (-26), 3) := by decide +kernel
theorem dX10_copyFrom_50 : decode cX10_copyFrom 50 = .ok (.aload_n 0, 1) := by decide +kernel
theorem dX10_copyFrom_51 : decode cX10_copyFrom 51 = .ok (.aload_n 1, 1) := by decide +kernel
theorem dX10_copyFrom_52 : decode cX10_copyFrom 52 = .ok (.getfield 50, 3) := by decide +kernel
theorem dX10_copyFrom_55 : decode cX10_copyFrom 55 = .ok (.putfield 50, 3) := by decide +kernel
theorem dX10_copyFrom_58 : decode cX10_copyFrom 58 = .ok (.iconst 0, 1) := by decide +kernel
theorem dX10_copyFrom_59 : decode cX10_copyFrom 59 = .ok (.istore_n 2, 1) := by decide +kernel
theorem dX10_copyFrom_60 : decode cX10_copyFrom 60 = .ok (.iload_n 2, 1) := by decide +kernel
theorem dX10_copyFrom_61 : decode cX10_copyFrom 61 = .ok (.aload_n 0, 1) := by decide +kernel
theorem dX10_copyFrom_62 : decode cX10_copyFrom 62 = .ok (.getfield 50, 3) := by decide +kernel
theorem dX10_copyFrom_65 : decode cX10_copyFrom 65 = .ok (.if_icmp .ge 24, 3) := by decide +kernel
theorem dX10_copyFrom_68 : decode cX10_copyFrom 68 = .ok (.aload_n 0, 1) := by decide +kernel
theorem dX10_copyFrom_69 : decode cX10_copyFrom 69 = .ok (.getfield 26, 3) := by decide +kernel
theorem dX10_copyFrom_72 : decode cX10_copyFrom 72 = .ok (.iload_n 2, 1) := by decide +kernel
theorem dX10_copyFrom_73 : decode cX10_copyFrom 73 = .ok (.aaload, 1) := by decide +kernel
theorem dX10_copyFrom_74 : decode cX10_copyFrom 74 = .ok (.aload_n 1, 1) := by decide +kernel
theorem dX10_copyFrom_75 : decode cX10_copyFrom 75 = .ok (.getfield 26, 3) := by decide +kernel
theorem dX10_copyFrom_78 : decode cX10_copyFrom 78 = .ok (.iload_n 2, 1) := by decide +kernel
theorem dX10_copyFrom_79 : decode cX10_copyFrom 79 = .ok (.aaload, 1) := by decide +kernel
theorem dX10_copyFrom_80 : decode cX10_copyFrom 80 = .ok (.invokevirtual 53, 3) := by decide +kernel
theorem dX10_copyFrom_83 : decode cX10_copyFrom 83 = .ok (.iinc 2 1, 3) := by decide +kernel
theorem dX10_copyFrom_86 : decode cX10_copyFrom 86 = .ok (.goto (-26), 3) := by decide +kernel
theorem dX10_copyFrom_89 : decode cX10_copyFrom 89 = .ok (.aload_n 0, 1) := by decide +kernel
theorem dX10_copyFrom_90 : decode cX10_copyFrom 90 = .ok (.aload_n 1, 1) := by decide +kernel
theorem dX10_copyFrom_91 : decode cX10_copyFrom 91 = .ok (.getfield 56, 3) := by decide +kernel
theorem dX10_copyFrom_94 : decode cX10_copyFrom 94 = .ok (.putfield 56, 3) := by decide +kernel
theorem dX10_copyFrom_97 : decode cX10_copyFrom 97 = .ok (.aload_n 0, 1) := by decide +kernel
theorem dX10_copyFrom_98 : decode cX10_copyFrom 98 = .ok (.getfield 33, 3) := by decide +kernel
theorem dX10_copyFrom_101 : decode cX10_copyFrom 101 = .ok (.aload_n 1, 1) := by decide +kernel
theorem dX10_copyFrom_102 : decode cX10_copyFrom 102 = .ok (.getfield 33, 3) := by decide +kernel
theorem dX10_copyFrom_105 : decode cX10_copyFrom 105 = .ok (.invokevirtual 59, 3) := by decide +kernel
theorem dX10_copyFrom_108 : decode cX10_copyFrom 108 = .ok (.aload_n 0, 1) := by decide +kernel
theorem dX10_copyFrom_109 : decode cX10_copyFrom 109 = .ok (.aload_n 1, 1) := by decide +kernel
theorem dX10_copyFrom_110 : decode cX10_copyFrom 110 = .ok (.getfield 62, 3) := by decide +kernel
theorem dX10_copyFrom_113 : decode cX10_copyFrom 113 = .ok (.putfield 62, 3) := by decide +kernel
theorem dX10_copyFrom_116 : decode cX10_copyFrom 116 = .ok (.aload_n 0, 1) := by decide +kernel
theorem dX10_copyFrom_117 : decode cX10_copyFrom 117 = .ok (.aload_n 1, 1) := by decide +kernel
theorem dX10_copyFrom_118 : decode cX10_copyFrom 118 = .ok (.getfield 65, 3) := by decide +kernel
theorem dX10_copyFrom_121 : decode cX10_copyFrom 121 = .ok (.putfield 65, 3) := by decide +kernel
theorem dX10_copyFrom_124 : decode cX10_copyFrom 124 = .ok (.aload_n 0, 1) := by decide +kernel
theorem dX10_copyFrom_125 : decode cX10_copyFrom 125 = .ok (.aload_n 1, 1) := by decide +kernel
theorem dX10_copyFrom_126 : decode cX10_copyFrom 126 = .ok (.getfield 68, 3) := by decide +kernel
theorem dX10_copyFrom_129 : decode cX10_copyFrom 129 = .ok (.putfield 68, 3) := by decide +kernel
theorem dX10_copyFrom_132 : decode cX10_copyFrom 132 = .ok (.aload_n 0, 1) := by decide +kernel
theorem dX10_copyFrom_133 : decode cX10_copyFrom 133 = .ok (.aload_n 1, 1) := by decide +kernel
theorem dX10_copyFrom_134 : decode cX10_copyFrom 134 = .ok (.getfield 71, 3) := by decide +kernel
theorem dX10_copyFrom_137 : decode cX10_copyFrom 137 = .ok (.putfield 71, 3) := by decide +kernel
theorem dX10_copyFrom_140 : decode cX10_copyFrom 140 = .ok (.return_, 1) := by decide +kernel
theorem dX10_hasHare_0 : decode cX10_hasHare 0 = .ok (.iload_n 1, 1) := by decide +kernel
theorem dX10_hasHare_1 : decode cX10_hasHare 1 = .ok (.ifCond .lt 15, 3) := by decide +kernel
theorem dX10_hasHare_4 : decode cX10_hasHare 4 = .ok (.iload_n 1, 1) := by decide +kernel
theorem dX10_hasHare_5 : decode cX10_hasHare 5 = .ok (.aload_n 0, 1) := by decide +kernel
theorem dX10_hasHare_6 : decode cX10_hasHare 6 = .ok (.getfield 43, 3) := by decide +kernel
theorem dX10_hasHare_9 : decode cX10_hasHare 9 = .ok (.if_icmp .ge 7, 3) := by decide +kernel
theorem dX10_hasHare_12 : decode cX10_hasHare 12 = .ok (.iconst 1, 1) := by decide +kernel
theorem dX10_hasHare_13 : decode cX10_hasHare 13 = .ok (.goto 4, 3) := by decide +kernel
theorem dX10_hasHare_16 : decode cX10_hasHare 16 = .ok (.iconst 0, 1) := by decide +kernel
theorem dX10_hasHare_17 : decode cX10_hasHare 17 = .ok (.ireturn, 1) := by decide +kernel
theorem dX10_placeOf_0 : decode cX10_placeOf 0 = .ok (.aload_n 0, 1) := by decide +kernel
theorem dX10_placeOf_1 : decode cX10_placeOf 1 = .ok (.iload_n 1, 1) := by decide +kernel
theorem dX10_placeOf_2 : decode cX10_placeOf 2 = .ok (.invokevirtual 74, 3) := by decide +kernel
theorem dX10_placeOf_5 : decode cX10_placeOf 5 = .ok (.ifCond .eq 15, 3) := by decide +kernel
theorem dX10_placeOf_8 : decode cX10_placeOf 8 = .ok (.aload_n 0, 1) := by decide +kernel
theorem dX10_placeOf_9 : decode cX10_placeOf 9 = .ok (.getfield 20, 3) := by decide +kernel
theorem dX10_placeOf_12 : decode cX10_placeOf 12 = .ok (.iload_n 1, 1) := by decide +kernel
theorem dX10_placeOf_13 : decode cX10_placeOf 13 = .ok (.aaload, 1) := by decide +kernel
theorem dX10_placeOf_14 : decode cX10_placeOf 14 = .ok (.getfield 78, 3) := by decide +kernel
theorem dX10_placeOf_17 : decode cX10_placeOf 17 = .ok (.goto 4, 3) := by decide +kernel
theorem dX10_placeOf_20 : decode cX10_placeOf 20 = .ok (.iconst (-1), 1) := by decide +kernel
theorem dX10_placeOf_21 : decode cX10_placeOf 21 = .ok (.ireturn, 1) := by decide +kernel
theorem dX10_listens_0 : decode cX10_listens 0 = .ok (.aload_n 0, 1) := by decide +kernel
theorem dX10_listens_1 : decode cX10_listens 1 = .ok (.iload_n 1, 1) := by decide +kernel
theorem dX10_listens_2 : decode cX10_listens 2 = .ok (.invokevirtual 74, 3) := by decide +kernel
theorem dX10_listens_5 : decode cX10_listens 5 = .ok (.ifCond .eq 19, 3) := by decide +kernel
theorem dX10_listens_8 : decode cX10_listens 8 = .ok (.aload_n 0, 1) := by decide +kernel
theorem dX10_listens_9 : decode cX10_listens 9 = .ok (.getfield 20, 3) := by decide +kernel
theorem dX10_listens_12 : decode cX10_listens 12 = .ok (.iload_n 1, 1) := by decide +kernel
theorem dX10_listens_13 : decode cX10_listens 13 = .ok (.aaload, 1) := by decide +kernel
theorem dX10_listens_14 : decode cX10_listens 14 = .ok (.getfield 81, 3) := by decide +kernel
theorem dX10_listens_17 : decode cX10_listens 17 = .ok (.ifCond .eq 7, 3) := by decide +kernel
theorem dX10_listens_20 : decode cX10_listens 20 = .ok (.iconst 1, 1) := by decide +kernel
theorem dX10_listens_21 : decode cX10_listens 21 = .ok (.goto 4, 3) := by decide +kernel
theorem dX10_listens_24 : decode cX10_listens 24 = .ok (.iconst 0, 1) := by decide +kernel
theorem dX10_listens_25 : decode cX10_listens 25 = .ok (.ireturn, 1) := by decide +kernel
theorem dX10_receivedBy_0 : decode cX10_receivedBy 0 = .ok (.aload_n 0, 1) := by decide +kernel
theorem dX10_receivedBy_1 : decode cX10_receivedBy 1 = .ok (.iload_n 1, 1) := by decide +kernel
theorem dX10_receivedBy_2 : decode cX10_receivedBy 2 = .ok (.invokevirtual 74, 3) := by decide +kernel
theorem dX10_receivedBy_5 : decode cX10_receivedBy 5 = .ok (.ifCond .eq 15, 3) := by decide +kernel
theorem dX10_receivedBy_8 : decode cX10_receivedBy 8 = .ok (.aload_n 0, 1) := by decide +kernel
theorem dX10_receivedBy_9 : decode cX10_receivedBy 9 = .ok (.getfield 20, 3) := by decide +kernel
theorem dX10_receivedBy_12 : decode cX10_receivedBy 12 = .ok (.iload_n 1, 1) := by decide +kernel
theorem dX10_receivedBy_13 : decode cX10_receivedBy 13 = .ok (.aaload, 1) := by decide +kernel
theorem dX10_receivedBy_14 : decode cX10_receivedBy 14 = .ok (.getfield 85, 3) := by decide +kernel
theorem dX10_receivedBy_17 : decode cX10_receivedBy 17 = .ok (.goto 4, 3) := by decide +kernel
theorem dX10_receivedBy_20 : decode cX10_receivedBy 20 = .ok (.iconst 0, 1) := by decide +kernel
theorem dX10_receivedBy_21 : decode cX10_receivedBy 21 = .ok (.ireturn, 1) := by decide +kernel
theorem dX10_latestOf_0 : decode cX10_latestOf 0 = .ok (.aload_n 0, 1) := by decide +kernel
theorem dX10_latestOf_1 : decode cX10_latestOf 1 = .ok (.iload_n 1, 1) := by decide +kernel
theorem dX10_latestOf_2 : decode cX10_latestOf 2 = .ok (.invokevirtual 74, 3) := by decide +kernel
theorem dX10_latestOf_5 : decode cX10_latestOf 5 = .ok (.ifCond .eq 27, 3) := by decide +kernel
theorem dX10_latestOf_8 : decode cX10_latestOf 8 = .ok (.aload_n 0, 1) := by decide +kernel
theorem dX10_latestOf_9 : decode cX10_latestOf 9 = .ok (.getfield 20, 3) := by decide +kernel
theorem dX10_latestOf_12 : decode cX10_latestOf 12 = .ok (.iload_n 1, 1) := by decide +kernel
theorem dX10_latestOf_13 : decode cX10_latestOf 13 = .ok (.aaload, 1) := by decide +kernel
theorem dX10_latestOf_14 : decode cX10_latestOf 14 = .ok (.getfield 85, 3) := by decide +kernel
theorem dX10_latestOf_17 : decode cX10_latestOf 17 = .ok (.ifCond .le 15, 3) := by decide +kernel
theorem dX10_latestOf_20 : decode cX10_latestOf 20 = .ok (.aload_n 0, 1) := by decide +kernel
theorem dX10_latestOf_21 : decode cX10_latestOf 21 = .ok (.getfield 20, 3) := by decide +kernel
theorem dX10_latestOf_24 : decode cX10_latestOf 24 = .ok (.iload_n 1, 1) := by decide +kernel
theorem dX10_latestOf_25 : decode cX10_latestOf 25 = .ok (.aaload, 1) := by decide +kernel
theorem dX10_latestOf_26 : decode cX10_latestOf 26 = .ok (.getfield 88, 3) := by decide +kernel
theorem dX10_latestOf_29 : decode cX10_latestOf 29 = .ok (.goto 4, 3) := by decide +kernel
theorem dX10_latestOf_32 : decode cX10_latestOf 32 = .ok (.iconst (-1), 1) := by decide +kernel
theorem dX10_latestOf_33 : decode cX10_latestOf 33 = .ok (.ireturn, 1) := by decide +kernel
theorem dX10_drums_0 : decode cX10_drums 0 = .ok (.iconst 0, 1) := by decide +kernel
theorem dX10_drums_1 : decode cX10_drums 1 = .ok (.istore_n 2, 1) := by decide +kernel
theorem dX10_drums_2 : decode cX10_drums 2 = .ok (.iload_n 2, 1) := by decide +kernel
theorem dX10_drums_3 : decode cX10_drums 3 = .ok (.aload_n 0, 1) := by decide +kernel
theorem dX10_drums_4 : decode cX10_drums 4 = .ok (.getfield 50, 3) := by decide +kernel
theorem dX10_drums_7 : decode cX10_drums 7 = .ok (.if_icmp .ge 35, 3) := by decide +kernel
theorem dX10_drums_10 : decode cX10_drums 10 = .ok (.aload_n 0, 1) := by decide +kernel
theorem dX10_drums_11 : decode cX10_drums 11 = .ok (.getfield 26, 3) := by decide +kernel
theorem dX10_drums_14 : decode cX10_drums 14 = .ok (.iload_n 2, 1) := by decide +kernel
theorem dX10_drums_15 : decode cX10_drums 15 = .ok (.aaload, 1) := by decide +kernel
theorem dX10_drums_16 : decode cX10_drums 16 = .ok (.astore_n 3, 1) := by decide +kernel
theorem dX10_drums_17 : decode cX10_drums 17 = .ok (.aload_n 3, 1) := by decide +kernel
theorem dX10_drums_18 : decode cX10_drums 18 = .ok (.getfield 91, 3) := by decide +kernel
theorem dX10_drums_21 : decode cX10_drums 21 = .ok (.bipush 100, 2) := by decide +kernel
theorem dX10_drums_23 : decode cX10_drums 23 = .ok (.if_icmp .ne 13, 3) := by decide +kernel
theorem dX10_drums_26 : decode cX10_drums 26 = .ok (.aload_n 3, 1) := by decide +kernel
theorem dX10_drums_27 : decode cX10_drums 27 = .ok (.getfield 95, 3) := by decide +kernel
theorem dX10_drums_30 : decode cX10_drums 30 = .ok (.iload_n 1, 1) := by decide +kernel
theorem dX10_drums_31 : decode cX10_drums 31 = .ok (.if_icmp .ne 5, 3) := by decide +kernel
theorem dX10_drums_34 : decode cX10_drums 34 = .ok (.iconst 1, 1) := by decide +kernel
theorem dX10_drums_35 : decode cX10_drums 35 = .ok (.ireturn, 1) := by decide +kernel
theorem dX10_drums_36 : decode cX10_drums 36 = .ok (.iinc 2 1, 3) := by decide +kernel
theorem dX10_drums_39 : decode cX10_drums 39 = .ok (.goto (-37), 3) := by decide +kernel
theorem dX10_drums_42 : decode cX10_drums 42 = .ok (.iconst 0, 1) := by decide +kernel
theorem dX10_drums_43 : decode cX10_drums 43 = .ok (.ireturn, 1) := by decide +kernel
theorem dX10_haresAheadOf_0 : decode cX10_haresAheadOf 0 = .ok (.iconst 0, 1) := by decide +kernel
theorem dX10_haresAheadOf_1 : decode cX10_haresAheadOf 1 = .ok (.istore_n 2, 1) := by decide +kernel
theorem dX10_haresAheadOf_2 : decode cX10_haresAheadOf 2 = .ok (.iconst 0, 1) := by decide +kernel
theorem dX10_haresAheadOf_3 : decode cX10_haresAheadOf 3 = .ok (.istore_n 3, 1) := by decide +kernel
theorem dX10_haresAheadOf_4 : decode cX10_haresAheadOf 4 = .ok (.iload_n 3, 1) := by decide +kernel
theorem dX10_haresAheadOf_5 : decode cX10_haresAheadOf 5 = .ok (.aload_n 0, 1) := by decide +kernel
theorem dX10_haresAheadOf_6 : decode cX10_haresAheadOf 6 = .ok (.getfield 43, 3) := by decide +kernel
theorem dX10_haresAheadOf_9 : decode cX10_haresAheadOf 9 = .ok (.if_icmp .ge 40, 3) := by decide +kernel
theorem dX10_haresAheadOf_12 : decode cX10_haresAheadOf 12 = .ok (.aload_n 0, 1) := by decide +kernel
theorem dX10_haresAheadOf_13 : decode cX10_haresAheadOf 13 = .ok (.iload_n 3, 1) := by decide +kernel
theorem dX10_haresAheadOf_14 : decode cX10_haresAheadOf 14 = .ok (.invokevirtual 98, 3) := by decide +kernel
theorem dX10_haresAheadOf_17 : decode cX10_haresAheadOf 17 = .ok (.aload_n 0, 1) := by decide +kernel
theorem dX10_haresAheadOf_18 : decode cX10_haresAheadOf 18 = .ok (.iload_n 1, 1) := by decide +kernel
theorem dX10_haresAheadOf_19 : decode cX10_haresAheadOf 19 = .ok (.invokevirtual 98, 3) := by decide +kernel
theorem dX10_haresAheadOf_22 : decode cX10_haresAheadOf 22 = .ok (.isub, 1) := by decide +kernel
theorem dX10_haresAheadOf_23 : decode cX10_haresAheadOf 23 = .ok (.istore 4, 2) := by decide +kernel
theorem dX10_haresAheadOf_25 : decode cX10_haresAheadOf 25 = .ok (.iload 4, 2) := by decide +kernel
theorem dX10_haresAheadOf_27 : decode cX10_haresAheadOf 27 = .ok (.ifCond .gt 13, 3) := by decide +kernel
theorem dX10_haresAheadOf_30 : decode cX10_haresAheadOf 30 = .ok (.iload 4, 2) := by decide +kernel
theorem dX10_haresAheadOf_32 : decode cX10_haresAheadOf 32 = .ok (.ifCond .ne 11, 3) := by decide +kernel
theorem dX10_haresAheadOf_35 : decode cX10_haresAheadOf 35 = .ok (.iload_n 3, 1) := by decide +kernel
theorem dX10_haresAheadOf_36 : decode cX10_haresAheadOf 36 = .ok (.iload_n 1, 1) := by decide +kernel
theorem dX10_haresAheadOf_37 : decode cX10_haresAheadOf 37 = .ok (.if_icmp .ge 6, 3) := by decide +kernel
theorem dX10_haresAheadOf_40 : decode cX10_haresAheadOf 40 = .ok (.iinc 2 1, 3) := by decide +kernel
theorem dX10_haresAheadOf_43 : decode cX10_haresAheadOf 43 = .ok (.iinc 3 1, 3) := by decide +kernel
theorem dX10_haresAheadOf_46 : decode cX10_haresAheadOf 46 = .ok (.goto (-42), 3) := by decide +kernel
theorem dX10_haresAheadOf_49 : decode cX10_haresAheadOf 49 = .ok (.iload_n 2, 1) := by decide +kernel
theorem dX10_haresAheadOf_50 : decode cX10_haresAheadOf 50 = .ok (.ireturn, 1) := by decide +kernel
theorem dX10_settle_0 : decode cX10_settle 0 = .ok (.aload_n 0, 1) := by decide +kernel
theorem dX10_settle_1 : decode cX10_settle 1 = .ok (.getfield 12, 3) := by decide +kernel
theorem dX10_settle_4 : decode cX10_settle 4 = .ok (.iload_n 1, 1) := by decide +kernel
theorem dX10_settle_5 : decode cX10_settle 5 = .ok (.invokevirtual 102, 3) := by decide +kernel
theorem dX10_settle_8 : decode cX10_settle 8 = .ok (.ifCond .ne 7, 3) := by decide +kernel
theorem dX10_settle_11 : decode cX10_settle 11 = .ok (.getstatic 105, 3) := by decide +kernel
theorem dX10_settle_14 : decode cX10_settle 14 = .ok (.areturn, 1) := by decide +kernel
theorem dX10_settle_15 : decode cX10_settle 15 = .ok (.aload_n 0, 1) := by decide +kernel
theorem dX10_settle_16 : decode cX10_settle 16 = .ok (.getfield 43, 3) := by decide +kernel
theorem dX10_settle_19 : decode cX10_settle 19 = .ok (.bipush 6, 2) := by decide +kernel
theorem dX10_settle_21 : decode cX10_settle 21 = .ok (.if_icmp .lt 7, 3) := by decide +kernel
theorem dX10_settle_24 : decode cX10_settle 24 = .ok (.getstatic 111, 3) := by decide +kernel
theorem dX10_settle_27 : decode cX10_settle 27 = .ok (.areturn, 1) := by decide +kernel
theorem dX10_settle_28 : decode cX10_settle 28 = .ok (.aload_n 0, 1) := by decide +kernel
theorem dX10_settle_29 : decode cX10_settle 29 = .ok (.getfield 20, 3) := by decide +kernel
theorem dX10_settle_32 : decode cX10_settle 32 = .ok (.aload_n 0, 1) := by decide +kernel
theorem dX10_settle_33 : decode cX10_settle 33 = .ok (.getfield 43, 3) := by decide +kernel
theorem dX10_settle_36 : decode cX10_settle 36 = .ok (.aaload, 1) := by decide +kernel
theorem dX10_settle_37 : decode cX10_settle 37 = .ok (.astore_n 2, 1) := by decide +kernel
theorem dX10_settle_38 : decode cX10_settle 38 = .ok (.aload_n 2, 1) := by decide +kernel
theorem dX10_settle_39 : decode cX10_settle 39 = .ok (.iload_n 1, 1) := by decide +kernel
theorem dX10_settle_40 : decode cX10_settle 40 = .ok (.putfield 78, 3) := by decide +kernel
theorem dX10_settle_43 : decode cX10_settle 43 = .ok (.aload_n 2, 1) := by decide +kernel
theorem dX10_settle_44 : decode cX10_settle 44 = .ok (.iconst 1, 1) := by decide +kernel
theorem dX10_settle_45 : decode cX10_settle 45 = .ok (.putfield 81, 3) := by decide +kernel
theorem dX10_settle_48 : decode cX10_settle 48 = .ok (.aload_n 2, 1) := by decide +kernel
theorem dX10_settle_49 : decode cX10_settle 49 = .ok (.iconst 0, 1) := by decide +kernel
theorem dX10_settle_50 : decode cX10_settle 50 = .ok (.putfield 85, 3) := by decide +kernel
theorem dX10_settle_53 : decode cX10_settle 53 = .ok (.aload_n 0, 1) := by decide +kernel
theorem dX10_settle_54 : decode cX10_settle 54 = .ok (.dup, 1) := by decide +kernel
theorem dX10_settle_55 : decode cX10_settle 55 = .ok (.getfield 43, 3) := by decide +kernel
theorem dX10_settle_58 : decode cX10_settle 58 = .ok (.iconst 1, 1) := by decide +kernel
theorem dX10_settle_59 : decode cX10_settle 59 = .ok (.iadd, 1) := by decide +kernel
theorem dX10_settle_60 : decode cX10_settle 60 = .ok (.putfield 43, 3) := by decide +kernel
theorem dX10_settle_63 : decode cX10_settle 63 = .ok (.getstatic 114, 3) := by decide +kernel
theorem dX10_settle_66 : decode cX10_settle 66 = .ok (.areturn, 1) := by decide +kernel
theorem dX10_go_0 : decode cX10_go 0 = .ok (.aload_n 0, 1) := by decide +kernel
theorem dX10_go_1 : decode cX10_go 1 = .ok (.iload_n 1, 1) := by decide +kernel
theorem dX10_go_2 : decode cX10_go 2 = .ok (.invokevirtual 74, 3) := by decide +kernel
theorem dX10_go_5 : decode cX10_go 5 = .ok (.ifCond .eq 14, 3) := by decide +kernel
theorem dX10_go_8 : decode cX10_go 8 = .ok (.aload_n 0, 1) := by decide +kernel
theorem dX10_go_9 : decode cX10_go 9 = .ok (.getfield 12, 3) := by decide +kernel
theorem dX10_go_12 : decode cX10_go 12 = .ok (.iload_n 2, 1) := by decide +kernel
theorem dX10_go_13 : decode cX10_go 13 = .ok (.invokevirtual 102, 3) := by decide +kernel
theorem dX10_go_16 : decode cX10_go 16 = .ok (.ifCond .ne 7, 3) := by decide +kernel
theorem dX10_go_19 : decode cX10_go 19 = .ok (.getstatic 105, 3) := by decide +kernel
theorem dX10_go_22 : decode cX10_go 22 = .ok (.areturn, 1) := by decide +kernel
theorem dX10_go_23 : decode cX10_go 23 = .ok (.aload_n 0, 1) := by decide +kernel
theorem dX10_go_24 : decode cX10_go 24 = .ok (.iload_n 1, 1) := by decide +kernel
theorem dX10_go_25 : decode cX10_go 25 = .ok (.invokevirtual 117, 3) := by decide +kernel
theorem dX10_go_28 : decode cX10_go 28 = .ok (.ifCond .eq 7, 3) := by decide +kernel
theorem dX10_go_31 : decode cX10_go 31 = .ok (.getstatic 111, 3) := by decide +kernel
theorem dX10_go_34 : decode cX10_go 34 = .ok (.areturn, 1) := by decide +kernel
theorem dX10_go_35 : decode cX10_go 35 = .ok (.aload_n 0, 1) := by decide +kernel
theorem dX10_go_36 : decode cX10_go 36 = .ok (.getfield 20, 3) := by decide +kernel
theorem dX10_go_39 : decode cX10_go 39 = .ok (.iload_n 1, 1) := by decide +kernel
theorem dX10_go_40 : decode cX10_go 40 = .ok (.aaload, 1) := by decide +kernel
theorem dX10_go_41 : decode cX10_go 41 = .ok (.iload_n 2, 1) := by decide +kernel
theorem dX10_go_42 : decode cX10_go 42 = .ok (.putfield 78, 3) := by decide +kernel
theorem dX10_go_45 : decode cX10_go 45 = .ok (.getstatic 114, 3) := by decide +kernel
theorem dX10_go_48 : decode cX10_go 48 = .ok (.areturn, 1) := by decide +kernel
theorem dX10_letListen_0 : decode cX10_letListen 0 = .ok (.aload_n 0, 1) := by decide +kernel
theorem dX10_letListen_1 : decode cX10_letListen 1 = .ok (.iload_n 1, 1) := by decide +kernel
theorem dX10_letListen_2 : decode cX10_letListen 2 = .ok (.invokevirtual 74, 3) := by decide +kernel
theorem dX10_letListen_5 : decode cX10_letListen 5 = .ok (.ifCond .ne 7, 3) := by decide +kernel
theorem dX10_letListen_8 : decode cX10_letListen 8 = .ok (.getstatic 105, 3) := by decide +kernel
theorem dX10_letListen_11 : decode cX10_letListen 11 = .ok (.areturn, 1) := by decide +kernel
theorem dX10_letListen_12 : decode cX10_letListen 12 = .ok (.aload_n 0, 1) := by decide +kernel
theorem dX10_letListen_13 : decode cX10_letListen 13 = .ok (.getfield 20, 3) := by decide +kernel
theorem dX10_letListen_16 : decode cX10_letListen 16 = .ok (.iload_n 1, 1) := by decide +kernel
theorem dX10_letListen_17 : decode cX10_letListen 17 = .ok (.aaload, 1) := by decide +kernel
theorem dX10_letListen_18 : decode cX10_letListen 18 = .ok (.iload_n 2, 1) := by decide +kernel
theorem dX10_letListen_19 : decode cX10_letListen 19 = .ok (.putfield 81, 3) := by decide +kernel
theorem dX10_letListen_22 : decode cX10_letListen 22 = .ok (.getstatic 114, 3) := by decide +kernel
theorem dX10_letListen_25 : decode cX10_letListen 25 = .ok (.areturn, 1) := by decide +kernel
theorem dX10_positionOf_0 : decode cX10_positionOf 0 = .ok (.iconst 0, 1) := by decide +kernel
theorem dX10_positionOf_1 : decode cX10_positionOf 1 = .ok (.istore_n 2, 1) := by decide +kernel
theorem dX10_positionOf_2 : decode cX10_positionOf 2 = .ok (.iload_n 2, 1) := by decide +kernel
theorem dX10_positionOf_3 : decode cX10_positionOf 3 = .ok (.aload_n 0, 1) := by decide +kernel
theorem dX10_positionOf_4 : decode cX10_positionOf 4 = .ok (.getfield 50, 3) := by decide +kernel
theorem dX10_positionOf_7 : decode cX10_positionOf 7 = .ok (.if_icmp .ge 24, 3) := by decide +kernel
theorem dX10_positionOf_10 : decode cX10_positionOf 10 = .ok (.aload_n 0, 1) := by decide +kernel
theorem dX10_positionOf_11 : decode cX10_positionOf 11 = .ok (.getfield 26, 3) := by decide +kernel
theorem dX10_positionOf_14 : decode cX10_positionOf 14 = .ok (.iload_n 2, 1) := by decide +kernel
theorem dX10_positionOf_15 : decode cX10_positionOf 15 = .ok (.aaload, 1) := by decide +kernel
theorem dX10_positionOf_16 : decode cX10_positionOf 16 = .ok (.getfield 120, 3) := by decide +kernel
theorem dX10_positionOf_19 : decode cX10_positionOf 19 = .ok (.iload_n 1, 1) := by decide +kernel
theorem dX10_positionOf_20 : decode cX10_positionOf 20 = .ok (.if_icmp .ne 5, 3) := by decide +kernel
theorem dX10_positionOf_23 : decode cX10_positionOf 23 = .ok (.iload_n 2, 1) := by decide +kernel
theorem dX10_positionOf_24 : decode cX10_positionOf 24 = .ok (.ireturn, 1) := by decide +kernel
theorem dX10_positionOf_25 : decode cX10_positionOf 25 = .ok (.iinc 2 1, 3) := by decide +kernel
theorem dX10_positionOf_28 : decode cX10_positionOf 28 = .ok (.goto (-26), 3) := by decide +kernel
theorem dX10_positionOf_31 : decode cX10_positionOf 31 = .ok (.iconst (-1), 1) := by decide +kernel
theorem dX10_positionOf_32 : decode cX10_positionOf 32 = .ok (.ireturn, 1) := by decide +kernel
theorem dX10_isDelivered_0 : decode cX10_isDelivered 0 = .ok (.iload_n 1, 1) := by decide +kernel
theorem dX10_isDelivered_1 : decode cX10_isDelivered 1 = .ok (.ifCond .lt 29, 3) := by decide +kernel
theorem dX10_isDelivered_4 : decode cX10_isDelivered 4 = .ok (.iload_n 1, 1) := by decide +kernel
theorem dX10_isDelivered_5 : decode cX10_isDelivered 5 = .ok (.aload_n 0, 1) := by decide +kernel
theorem dX10_isDelivered_6 : decode cX10_isDelivered 6 = .ok (.getfield 50, 3) := by decide +kernel
theorem dX10_isDelivered_9 : decode cX10_isDelivered 9 = .ok (.if_icmp .ge 21, 3) := by decide +kernel
theorem dX10_isDelivered_12 : decode cX10_isDelivered 12 = .ok (.aload_n 0, 1) := by decide +kernel
theorem dX10_isDelivered_13 : decode cX10_isDelivered 13 = .ok (.getfield 26, 3) := by decide +kernel
theorem dX10_isDelivered_16 : decode cX10_isDelivered 16 = .ok (.iload_n 1, 1) := by decide +kernel
theorem dX10_isDelivered_17 : decode cX10_isDelivered 17 = .ok (.aaload, 1) := by decide +kernel
theorem dX10_isDelivered_18 : decode cX10_isDelivered 18 = .ok (.getfield 91, 3) := by decide +kernel
theorem dX10_isDelivered_21 : decode cX10_isDelivered 21 = .ok (.bipush 114, 2) := by decide +kernel
theorem dX10_isDelivered_23 : decode cX10_isDelivered 23 = .ok (.if_icmp .ne 7, 3) := by decide +kernel
theorem dX10_isDelivered_26 : decode cX10_isDelivered 26 = .ok (.iconst 1, 1) := by decide +kernel
theorem dX10_isDelivered_27 : decode cX10_isDelivered 27 = .ok (.goto 4, 3) := by decide +kernel
theorem dX10_isDelivered_30 : decode cX10_isDelivered 30 = .ok (.iconst 0, 1) := by decide +kernel
theorem dX10_isDelivered_31 : decode cX10_isDelivered 31 = .ok (.ireturn, 1) := by decide +kernel
theorem dX10_addMessage_0 : decode cX10_addMessage 0 = .ok (.aload_n 0, 1) := by decide +kernel
theorem dX10_addMessage_1 : decode cX10_addMessage 1 = .ok (.iload_n 1, 1) := by decide +kernel
theorem dX10_addMessage_2 : decode cX10_addMessage 2 = .ok (.invokevirtual 74, 3) := by decide +kernel
theorem dX10_addMessage_5 : decode cX10_addMessage 5 = .ok (.ifCond .eq 11, 3) := by decide +kernel
theorem dX10_addMessage_8 : decode cX10_addMessage 8 = .ok (.aload_n 0, 1) := by decide +kernel
theorem dX10_addMessage_9 : decode cX10_addMessage 9 = .ok (.iload_n 2, 1) := by decide +kernel
theorem dX10_addMessage_10 : decode cX10_addMessage 10 = .ok (.invokevirtual 74, 3) := by decide +kernel
theorem dX10_addMessage_13 : decode cX10_addMessage 13 = .ok (.ifCond .ne 7, 3) := by decide +kernel
theorem dX10_addMessage_16 : decode cX10_addMessage 16 = .ok (.getstatic 105, 3) := by decide +kernel
theorem dX10_addMessage_19 : decode cX10_addMessage 19 = .ok (.areturn, 1) := by decide +kernel
theorem dX10_addMessage_20 : decode cX10_addMessage 20 = .ok (.iload_n 1, 1) := by decide +kernel
theorem dX10_addMessage_21 : decode cX10_addMessage 21 = .ok (.iload_n 2, 1) := by decide +kernel
theorem dX10_addMessage_22 : decode cX10_addMessage 22 = .ok (.if_icmp .eq 10, 3) := by decide +kernel
theorem dX10_addMessage_25 : decode cX10_addMessage 25 = .ok (.iload_n 3, 1) := by decide +kernel
theorem dX10_addMessage_26 : decode cX10_addMessage 26 = .ok (.invokestatic 123, 3) := by decide +kernel
theorem dX10_addMessage_29 : decode cX10_addMessage 29 = .ok (.ifCond .ne 7, 3) := by decide +kernel
theorem dX10_addMessage_32 : decode cX10_addMessage 32 = .ok (.getstatic 126, 3) := by decide +kernel
theorem dX10_addMessage_35 : decode cX10_addMessage 35 = .ok (.areturn, 1) := by decide +kernel
theorem dX10_addMessage_36 : decode cX10_addMessage 36 = .ok (.aload_n 0, 1) := by decide +kernel
theorem dX10_addMessage_37 : decode cX10_addMessage 37 = .ok (.getfield 50, 3) := by decide +kernel
theorem dX10_addMessage_40 : decode cX10_addMessage 40 = .ok (.bipush 8, 2) := by decide +kernel
theorem dX10_addMessage_42 : decode cX10_addMessage 42 = .ok (.if_icmp .lt 7, 3) := by decide +kernel
theorem dX10_addMessage_45 : decode cX10_addMessage 45 = .ok (.getstatic 111, 3) := by decide +kernel
theorem dX10_addMessage_48 : decode cX10_addMessage 48 = .ok (.areturn, 1) := by decide +kernel
theorem dX10_addMessage_49 : decode cX10_addMessage 49 = .ok (.aload_n 0, 1) := by decide +kernel
theorem dX10_addMessage_50 : decode cX10_addMessage 50 = .ok (.getfield 26, 3) := by decide +kernel
theorem dX10_addMessage_53 : decode cX10_addMessage 53 = .ok (.aload_n 0, 1) := by decide +kernel
theorem dX10_addMessage_54 : decode cX10_addMessage 54 = .ok (.getfield 50, 3) := by decide +kernel
theorem dX10_addMessage_57 : decode cX10_addMessage 57 = .ok (.aaload, 1) := by decide +kernel
theorem dX10_addMessage_58 : decode cX10_addMessage 58 = .ok (.astore 4, 2) := by decide +kernel
theorem dX10_addMessage_60 : decode cX10_addMessage 60 = .ok (.aload 4, 2) := by decide +kernel
theorem dX10_addMessage_62 : decode cX10_addMessage 62 = .ok (.aload_n 0, 1) := by decide +kernel
theorem dX10_addMessage_63 : decode cX10_addMessage 63 = .ok (.getfield 56, 3) := by decide +kernel
theorem dX10_addMessage_66 : decode cX10_addMessage 66 = .ok (.putfield 120, 3) := by decide +kernel
theorem dX10_addMessage_69 : decode cX10_addMessage 69 = .ok (.aload 4, 2) := by decide +kernel
theorem dX10_addMessage_71 : decode cX10_addMessage 71 = .ok (.iload_n 1, 1) := by decide +kernel
theorem dX10_addMessage_72 : decode cX10_addMessage 72 = .ok (.putfield 95, 3) := by decide +kernel
theorem dX10_addMessage_75 : decode cX10_addMessage 75 = .ok (.aload 4, 2) := by decide +kernel
theorem dX10_addMessage_77 : decode cX10_addMessage 77 = .ok (.iload_n 2, 1) := by decide +kernel
theorem dX10_addMessage_78 : decode cX10_addMessage 78 = .ok (.putfield 129, 3) := by decide +kernel
theorem dX10_addMessage_81 : decode cX10_addMessage 81 = .ok (.aload 4, 2) := by decide +kernel
theorem dX10_addMessage_83 : decode cX10_addMessage 83 = .ok (.iload_n 3, 1) := by decide +kernel
theorem dX10_addMessage_84 : decode cX10_addMessage 84 = .ok (.putfield 132, 3) := by decide +kernel
theorem dX10_addMessage_87 : decode cX10_addMessage 87 = .ok (.aload 4, 2) := by decide +kernel
theorem dX10_addMessage_89 : decode cX10_addMessage 89 = .ok (.bipush 119, 2) := by decide +kernel
theorem dX10_addMessage_91 : decode cX10_addMessage 91 = .ok (.putfield 91, 3) := by decide +kernel
theorem dX10_addMessage_94 : decode cX10_addMessage 94 = .ok (.aload 4, 2) := by decide +kernel
theorem dX10_addMessage_96 : decode cX10_addMessage 96 = .ok (.iconst 0, 1) := by decide +kernel
theorem dX10_addMessage_97 : decode cX10_addMessage 97 = .ok (.putfield 135, 3) := by decide +kernel
theorem dX10_addMessage_100 : decode cX10_addMessage 100 = .ok (.aload 4, 2) := by decide +kernel
theorem dX10_addMessage_102 : decode cX10_addMessage 102 = .ok (.iconst 0, 1) := by decide +kernel
theorem dX10_addMessage_103 : decode cX10_addMessage 103 = .ok (.putfield 138, 3) := by decide +kernel
theorem dX10_addMessage_106 : decode cX10_addMessage 106 = .ok (.aload_n 0, 1) := by decide +kernel
theorem dX10_addMessage_107 : decode cX10_addMessage 107 = .ok (.dup, 1) := by decide +kernel
theorem dX10_addMessage_108 : decode cX10_addMessage 108 = .ok (.getfield 50, 3) := by decide +kernel
theorem dX10_addMessage_111 : decode cX10_addMessage 111 = .ok (.iconst 1, 1) := by decide +kernel
theorem dX10_addMessage_112 : decode cX10_addMessage 112 = .ok (.iadd, 1) := by decide +kernel
theorem dX10_addMessage_113 : decode cX10_addMessage 113 = .ok (.putfield 50, 3) := by decide +kernel
theorem dX10_addMessage_116 : decode cX10_addMessage 116 = .ok (.aload_n 0, 1) := by decide +kernel
theorem dX10_addMessage_117 : decode cX10_addMessage 117 = .ok (.dup, 1) := by decide +kernel
theorem dX10_addMessage_118 : decode cX10_addMessage 118 = .ok (.getfield 56, 3) := by decide +kernel
theorem dX10_addMessage_121 : decode cX10_addMessage 121 = .ok (.iconst 1, 1) := by decide +kernel
theorem dX10_addMessage_122 : decode cX10_addMessage 122 = .ok (.iadd, 1) := by decide +kernel
theorem dX10_addMessage_123 : decode cX10_addMessage 123 = .ok (.putfield 56, 3) := by decide +kernel
theorem dX10_addMessage_126 : decode cX10_addMessage 126 = .ok (.getstatic 114, 3) := by decide +kernel
theorem dX10_addMessage_129 : decode cX10_addMessage 129 = .ok (.areturn, 1) := by decide +kernel
theorem dX10_dropMessage_0 : decode cX10_dropMessage 0 = .ok (.aload_n 0, 1) := by decide +kernel
theorem dX10_dropMessage_1 : decode cX10_dropMessage 1 = .ok (.iload_n 1, 1) := by decide +kernel
theorem dX10_dropMessage_2 : decode cX10_dropMessage 2 = .ok (.invokevirtual 141, 3) := by decide +kernel
theorem dX10_dropMessage_5 : decode cX10_dropMessage 5 = .ok (.istore_n 2, 1) := by decide +kernel
theorem dX10_dropMessage_6 : decode cX10_dropMessage 6 = .ok (.iload_n 2, 1) := by decide +kernel
theorem dX10_dropMessage_7 : decode cX10_dropMessage 7 = .ok (.iconst (-1), 1) := by decide +kernel
theorem dX10_dropMessage_8 : decode cX10_dropMessage 8 = .ok (.if_icmp .ne 7, 3) := by decide +kernel
theorem dX10_dropMessage_11 : decode cX10_dropMessage 11 = .ok (.getstatic 144, 3) := by decide +kernel
theorem dX10_dropMessage_14 : decode cX10_dropMessage 14 = .ok (.areturn, 1) := by decide +kernel
theorem dX10_dropMessage_15 : decode cX10_dropMessage 15 = .ok (.aload_n 0, 1) := by decide +kernel
theorem dX10_dropMessage_16 : decode cX10_dropMessage 16 = .ok (.getfield 26, 3) := by decide +kernel
theorem dX10_dropMessage_19 : decode cX10_dropMessage 19 = .ok (.iload_n 2, 1) := by decide +kernel
theorem dX10_dropMessage_20 : decode cX10_dropMessage 20 = .ok (.aaload, 1) := by decide +kernel
theorem dX10_dropMessage_21 : decode cX10_dropMessage 21 = .ok (.astore_n 3, 1) := by decide +kernel
theorem dX10_dropMessage_22 : decode cX10_dropMessage 22 = .ok (.aload_n 3, 1) := by decide +kernel
theorem dX10_dropMessage_23 : decode cX10_dropMessage 23 = .ok (.getfield 91, 3) := by decide +kernel
theorem dX10_dropMessage_26 : decode cX10_dropMessage 26 = .ok (.bipush 100, 2) := by decide +kernel
theorem dX10_dropMessage_28 : decode cX10_dropMessage 28 = .ok (.if_icmp .ne 7, 3) := by decide +kernel
theorem dX10_dropMessage_31 : decode cX10_dropMessage 31 = .ok (.getstatic 111, 3) := by decide +kernel
theorem dX10_dropMessage_34 : decode cX10_dropMessage 34 = .ok (.areturn, 1) := by decide +kernel
theorem dX10_dropMessage_35 : decode cX10_dropMessage 35 = .ok (.iload_n 2, 1) := by decide +kernel
theorem dX10_dropMessage_36 : decode cX10_dropMessage 36 = .ok (.iconst 1, 1) := by decide +kernel
theorem dX10_dropMessage_37 : decode cX10_dropMessage 37 = .ok (.iadd, 1) := by decide +kernel
theorem dX10_dropMessage_38 : decode cX10_dropMessage 38 = .ok (.istore 4, 2) := by decide +kernel
theorem dX10_dropMessage_40 : decode cX10_dropMessage 40 = .ok (.iload 4, 2) := by decide +kernel
theorem dX10_dropMessage_42 : decode cX10_dropMessage 42 = .ok (.aload_n 0, 1) := by decide +kernel
theorem dX10_dropMessage_43 : decode cX10_dropMessage 43 = .ok (.getfield 50, 3) := by decide +kernel
theorem dX10_dropMessage_46 : decode cX10_dropMessage 46 = .ok (.if_icmp .ge 25, 3) := by decide +kernel
theorem dX10_dropMessage_49 : decode cX10_dropMessage 49 = .ok (.aload_n 0, 1) := by decide +kernel
theorem dX10_dropMessage_50 : decode cX10_dropMessage 50 = .ok (.getfield 26, 3) := by decide +kernel
theorem dX10_dropMessage_53 : decode cX10_dropMessage 53 = .ok (.iload 4, 2) := by decide +kernel
theorem dX10_dropMessage_55 : decode cX10_dropMessage 55 = .ok (.iconst 1, 1) := by decide +kernel
theorem dX10_dropMessage_56 : decode cX10_dropMessage 56 = .ok (.isub, 1) := by decide +kernel
theorem dX10_dropMessage_57 : decode cX10_dropMessage 57 = .ok (.aload_n 0, 1) := by decide +kernel
theorem dX10_dropMessage_58 : decode cX10_dropMessage 58 = .ok (.getfield 26, 3) := by decide +kernel
theorem dX10_dropMessage_61 : decode cX10_dropMessage 61 = .ok (.iload 4, 2) := by decide +kernel
theorem dX10_dropMessage_63 : decode cX10_dropMessage 63 = .ok (.aaload, 1) := by decide +kernel
theorem dX10_dropMessage_64 : decode cX10_dropMessage 64 = .ok (.aastore, 1) := by decide +kernel
theorem dX10_dropMessage_65 : decode cX10_dropMessage 65 = .ok (.iinc 4 1, 3) := by decide +kernel
theorem dX10_dropMessage_68 : decode cX10_dropMessage 68 = .ok (.goto (-28), 3) := by decide +kernel
theorem dX10_dropMessage_71 : decode cX10_dropMessage 71 = .ok (.aload_n 0, 1) := by decide +kernel
theorem dX10_dropMessage_72 : decode cX10_dropMessage 72 = .ok (.dup, 1) := by decide +kernel
theorem dX10_dropMessage_73 : decode cX10_dropMessage 73 = .ok (.getfield 50, 3) := by decide +kernel
theorem dX10_dropMessage_76 : decode cX10_dropMessage 76 = .ok (.iconst 1, 1) := by decide +kernel
theorem dX10_dropMessage_77 : decode cX10_dropMessage 77 = .ok (.isub, 1) := by decide +kernel
theorem dX10_dropMessage_78 : decode cX10_dropMessage 78 = .ok (.putfield 50, 3) := by decide +kernel
theorem dX10_dropMessage_81 : decode cX10_dropMessage 81 = .ok (.aload_n 0, 1) := by decide +kernel
theorem dX10_dropMessage_82 : decode cX10_dropMessage 82 = .ok (.getfield 26, 3) := by decide +kernel
theorem dX10_dropMessage_85 : decode cX10_dropMessage 85 = .ok (.aload_n 0, 1) := by decide +kernel
theorem dX10_dropMessage_86 : decode cX10_dropMessage 86 = .ok (.getfield 50, 3) := by decide +kernel
theorem dX10_dropMessage_89 : decode cX10_dropMessage 89 = .ok (.aload_n 3, 1) := by decide +kernel
theorem dX10_dropMessage_90 : decode cX10_dropMessage 90 = .ok (.aastore, 1) := by decide +kernel
theorem dX10_dropMessage_91 : decode cX10_dropMessage 91 = .ok (.getstatic 114, 3) := by decide +kernel
theorem dX10_dropMessage_94 : decode cX10_dropMessage 94 = .ok (.areturn, 1) := by decide +kernel
theorem dX10_letTicksPass_0 : decode cX10_letTicksPass 0 = .ok (.iload_n 1, 1) := by decide +kernel
theorem dX10_letTicksPass_1 : decode cX10_letTicksPass 1 = .ok (.iconst 1, 1) := by decide +kernel
theorem dX10_letTicksPass_2 : decode cX10_letTicksPass 2 = .ok (.if_icmp .lt 9, 3) := by decide +kernel
theorem dX10_letTicksPass_5 : decode cX10_letTicksPass 5 = .ok (.iload_n 1, 1) := by decide +kernel
theorem dX10_letTicksPass_6 : decode cX10_letTicksPass 6 = .ok (.bipush 40, 2) := by decide +kernel
theorem dX10_letTicksPass_8 : decode cX10_letTicksPass 8 = .ok (.if_icmp .le 7, 3) := by decide +kernel
theorem dX10_letTicksPass_11 : decode cX10_letTicksPass 11 = .ok (.getstatic 126, 3) := by decide +kernel
theorem dX10_letTicksPass_14 : decode cX10_letTicksPass 14 = .ok (.areturn, 1) := by decide +kernel
theorem dX10_letTicksPass_15 : decode cX10_letTicksPass 15 = .ok (.iconst 0, 1) := by decide +kernel
theorem dX10_letTicksPass_16 : decode cX10_letTicksPass 16 = .ok (.istore_n 2, 1) := by decide +kernel
theorem dX10_letTicksPass_17 : decode cX10_letTicksPass 17 = .ok (.iload_n 2, 1) := by decide +kernel
theorem dX10_letTicksPass_18 : decode cX10_letTicksPass 18 = .ok (.iload_n 1, 1) := by decide +kernel
theorem dX10_letTicksPass_19 : decode cX10_letTicksPass 19 = .ok (.if_icmp .ge 13, 3) := by decide +kernel
theorem dX10_letTicksPass_22 : decode cX10_letTicksPass 22 = .ok (.aload_n 0, 1) := by decide +kernel
theorem dX10_letTicksPass_23 : decode cX10_letTicksPass 23 = .ok (.invokevirtual 147, 3) := by decide +kernel
theorem dX10_letTicksPass_26 : decode cX10_letTicksPass 26 = .ok (.iinc 2 1, 3) := by decide +kernel
theorem dX10_letTicksPass_29 : decode cX10_letTicksPass 29 = .ok (.goto (-12), 3) := by decide +kernel
theorem dX10_letTicksPass_32 : decode cX10_letTicksPass 32 = .ok (.getstatic 114, 3) := by decide +kernel
theorem dX10_letTicksPass_35 : decode cX10_letTicksPass 35 = .ok (.areturn, 1) := by decide +kernel
theorem dX10_passOneTick_0 : decode cX10_passOneTick 0 = .ok (.aload_n 0, 1) := by decide +kernel
theorem dX10_passOneTick_1 : decode cX10_passOneTick 1 = .ok (.invokevirtual 150, 3) := by decide +kernel
theorem dX10_passOneTick_4 : decode cX10_passOneTick 4 = .ok (.aload_n 0, 1) := by decide +kernel
theorem dX10_passOneTick_5 : decode cX10_passOneTick 5 = .ok (.invokevirtual 153, 3) := by decide +kernel
theorem dX10_passOneTick_8 : decode cX10_passOneTick 8 = .ok (.aload_n 0, 1) := by decide +kernel
theorem dX10_passOneTick_9 : decode cX10_passOneTick 9 = .ok (.invokevirtual 156, 3) := by decide +kernel
theorem dX10_passOneTick_12 : decode cX10_passOneTick 12 = .ok (.aload_n 0, 1) := by decide +kernel
theorem dX10_passOneTick_13 : decode cX10_passOneTick 13 = .ok (.dup, 1) := by decide +kernel
theorem dX10_passOneTick_14 : decode cX10_passOneTick 14 = .ok (.getfield 62, 3) := by decide +kernel
theorem dX10_passOneTick_17 : decode cX10_passOneTick 17 = .ok (.iconst 1, 1) := by decide +kernel
theorem dX10_passOneTick_18 : decode cX10_passOneTick 18 = .ok (.iadd, 1) := by decide +kernel
theorem dX10_passOneTick_19 : decode cX10_passOneTick 19 = .ok (.putfield 62, 3) := by decide +kernel
theorem dX10_passOneTick_22 : decode cX10_passOneTick 22 = .ok (.aload_n 0, 1) := by decide +kernel
theorem dX10_passOneTick_23 : decode cX10_passOneTick 23 = .ok (.getfield 33, 3) := by decide +kernel
theorem dX10_passOneTick_26 : decode cX10_passOneTick 26 = .ok (.aload_n 0, 1) := by decide +kernel
theorem dX10_passOneTick_27 : decode cX10_passOneTick 27 = .ok (.getfield 62, 3) := by decide +kernel
theorem dX10_passOneTick_30 : decode cX10_passOneTick 30 = .ok (.bipush 80, 2) := by decide +kernel
theorem dX10_passOneTick_32 : decode cX10_passOneTick 32 = .ok (.iadd, 1) := by decide +kernel
theorem dX10_passOneTick_33 : decode cX10_passOneTick 33 = .ok (.invokevirtual 159, 3) := by decide +kernel
theorem dX10_passOneTick_36 : decode cX10_passOneTick 36 = .ok (.return_, 1) := by decide +kernel
theorem dX10_beginMessages_0 : decode cX10_beginMessages 0 = .ok (.iconst 0, 1) := by decide +kernel
theorem dX10_beginMessages_1 : decode cX10_beginMessages 1 = .ok (.istore_n 1, 1) := by decide +kernel
theorem dX10_beginMessages_2 : decode cX10_beginMessages 2 = .ok (.iload_n 1, 1) := by decide +kernel
theorem dX10_beginMessages_3 : decode cX10_beginMessages 3 = .ok (.aload_n 0, 1) := by decide +kernel
theorem dX10_beginMessages_4 : decode cX10_beginMessages 4 = .ok (.getfield 12, 3) := by decide +kernel
theorem dX10_beginMessages_7 : decode cX10_beginMessages 7 = .ok (.getfield 163, 3) := by decide +kernel
theorem dX10_beginMessages_10 : decode cX10_beginMessages 10 = .ok (.if_icmp .ge 42, 3) := by decide +kernel
theorem dX10_beginMessages_13 : decode cX10_beginMessages 13 = .ok (.aload_n 0, 1) := by decide +kernel
theorem dX10_beginMessages_14 : decode cX10_beginMessages 14 = .ok (.iload_n 1, 1) := by decide +kernel
theorem dX10_beginMessages_15 : decode cX10_beginMessages 15 = .ok (.bipush 119, 2) := by decide +kernel
theorem dX10_beginMessages_17 : decode cX10_beginMessages 17 = .ok (.invokevirtual 166, 3) := by decide +kernel
theorem dX10_beginMessages_20 : decode cX10_beginMessages 20 = .ok (.istore_n 2, 1) := by decide +kernel
theorem dX10_beginMessages_21 : decode cX10_beginMessages 21 = .ok (.iload_n 2, 1) := by decide +kernel
theorem dX10_beginMessages_22 : decode cX10_beginMessages 22 = .ok (.iconst (-1), 1) := by decide +kernel
theorem dX10_beginMessages_23 : decode cX10_beginMessages 23 = .ok (.if_icmp .eq 23, 3) := by decide +kernel
theorem dX10_beginMessages_26 : decode cX10_beginMessages 26 = .ok (.aload_n 0, 1) := by decide +kernel
theorem dX10_beginMessages_27 : decode cX10_beginMessages 27 = .ok (.iload_n 1, 1) := by decide +kernel
theorem dX10_beginMessages_28 : decode cX10_beginMessages 28 = .ok (.bipush 100, 2) := by decide +kernel
theorem dX10_beginMessages_30 : decode cX10_beginMessages 30 = .ok (.invokevirtual 166, 3) := by decide +kernel
theorem dX10_beginMessages_33 : decode cX10_beginMessages 33 = .ok (.iconst (-1), 1) := by decide +kernel
theorem dX10_beginMessages_34 : decode cX10_beginMessages 34 = .ok (.if_icmp .ne 12, 3) := by decide +kernel
theorem dX10_beginMessages_37 : decode cX10_beginMessages 37 = .ok (.aload_n 0, 1) := by decide +kernel
theorem dX10_beginMessages_38 : decode cX10_beginMessages 38 = .ok (.getfield 26, 3) := by decide +kernel
theorem dX10_beginMessages_41 : decode cX10_beginMessages 41 = .ok (.iload_n 2, 1) := by decide +kernel
theorem dX10_beginMessages_42 : decode cX10_beginMessages 42 = .ok (.aaload, 1) := by decide +kernel
theorem dX10_beginMessages_43 : decode cX10_beginMessages 43 = .ok (.invokevirtual 170, 3) := by decide +kernel
theorem dX10_beginMessages_46 : decode cX10_beginMessages 46 = .ok (.iinc 1 1, 3) := by decide +kernel
theorem dX10_beginMessages_49 : decode cX10_beginMessages 49 = .ok (.goto (-47), 3) := by decide +kernel
theorem dX10_beginMessages_52 : decode cX10_beginMessages 52 = .ok (.return_, 1) := by decide +kernel
theorem dX10_firstIn_0 : decode cX10_firstIn 0 = .ok (.iconst 0, 1) := by decide +kernel
theorem dX10_firstIn_1 : decode cX10_firstIn 1 = .ok (.istore_n 3, 1) := by decide +kernel
theorem dX10_firstIn_2 : decode cX10_firstIn 2 = .ok (.iload_n 3, 1) := by decide +kernel
theorem dX10_firstIn_3 : decode cX10_firstIn 3 = .ok (.aload_n 0, 1) := by decide +kernel
theorem dX10_firstIn_4 : decode cX10_firstIn 4 = .ok (.getfield 50, 3) := by decide +kernel
theorem dX10_firstIn_7 : decode cX10_firstIn 7 = .ok (.if_icmp .ge 41, 3) := by decide +kernel
theorem dX10_firstIn_10 : decode cX10_firstIn 10 = .ok (.aload_n 0, 1) := by decide +kernel
theorem dX10_firstIn_11 : decode cX10_firstIn 11 = .ok (.getfield 26, 3) := by decide +kernel
theorem dX10_firstIn_14 : decode cX10_firstIn 14 = .ok (.iload_n 3, 1) := by decide +kernel
theorem dX10_firstIn_15 : decode cX10_firstIn 15 = .ok (.aaload, 1) := by decide +kernel
theorem dX10_firstIn_16 : decode cX10_firstIn 16 = .ok (.astore 4, 2) := by decide +kernel
theorem dX10_firstIn_18 : decode cX10_firstIn 18 = .ok (.aload 4, 2) := by decide +kernel
theorem dX10_firstIn_20 : decode cX10_firstIn 20 = .ok (.getfield 91, 3) := by decide +kernel
theorem dX10_firstIn_23 : decode cX10_firstIn 23 = .ok (.iload_n 2, 1) := by decide +kernel
theorem dX10_firstIn_24 : decode cX10_firstIn 24 = .ok (.if_icmp .ne 18, 3) := by decide +kernel
theorem dX10_firstIn_27 : decode cX10_firstIn 27 = .ok (.aload_n 0, 1) := by decide +kernel
theorem dX10_firstIn_28 : decode cX10_firstIn 28 = .ok (.aload 4, 2) := by decide +kernel
theorem dX10_firstIn_30 : decode cX10_firstIn 30 = .ok (.getfield 95, 3) := by decide +kernel
theorem dX10_firstIn_33 : decode cX10_firstIn 33 = .ok (.invokevirtual 173, 3) := by decide +kernel
theorem dX10_firstIn_36 : decode cX10_firstIn 36 = .ok (.iload_n 1, 1) := by decide +kernel
theorem dX10_firstIn_37 : decode cX10_firstIn 37 = .ok (.if_icmp .ne 5, 3) := by decide +kernel
theorem dX10_firstIn_40 : decode cX10_firstIn 40 = .ok (.iload_n 3, 1) := by decide +kernel
theorem dX10_firstIn_41 : decode cX10_firstIn 41 = .ok (.ireturn, 1) := by decide +kernel
theorem dX10_firstIn_42 : decode cX10_firstIn 42 = .ok (.iinc 3 1, 3) := by decide +kernel
theorem dX10_firstIn_45 : decode cX10_firstIn 45 = .ok (.goto (-43), 3) := by decide +kernel
theorem dX10_firstIn_48 : decode cX10_firstIn 48 = .ok (.iconst (-1), 1) := by decide +kernel
theorem dX10_firstIn_49 : decode cX10_firstIn 49 = .ok (.ireturn, 1) := by decide +kernel
theorem dX10_drumBeats_0 : decode cX10_drumBeats 0 = .ok (.iconst 0, 1) := by decide +kernel
theorem dX10_drumBeats_1 : decode cX10_drumBeats 1 = .ok (.istore_n 1, 1) := by decide +kernel
theorem dX10_drumBeats_2 : decode cX10_drumBeats 2 = .ok (.iload_n 1, 1) := by decide +kernel
theorem dX10_drumBeats_3 : decode cX10_drumBeats 3 = .ok (.aload_n 0, 1) := by decide +kernel
theorem dX10_drumBeats_4 : decode cX10_drumBeats 4 = .ok (.getfield 50, 3) := by decide +kernel
theorem dX10_drumBeats_7 : decode cX10_drumBeats 7 = .ok (.if_icmp .ge 57, 3) := by decide +kernel
theorem dX10_drumBeats_10 : decode cX10_drumBeats 10 = .ok (.aload_n 0, 1) := by decide +kernel
theorem dX10_drumBeats_11 : decode cX10_drumBeats 11 = .ok (.getfield 26, 3) := by decide +kernel
theorem dX10_drumBeats_14 : decode cX10_drumBeats 14 = .ok (.iload_n 1, 1) := by decide +kernel
theorem dX10_drumBeats_15 : decode cX10_drumBeats 15 = .ok (.aaload, 1) := by decide +kernel
theorem dX10_drumBeats_16 : decode cX10_drumBeats 16 = .ok (.astore_n 2, 1) := by decide +kernel
theorem dX10_drumBeats_17 : decode cX10_drumBeats 17 = .ok (.aload_n 2, 1) := by decide +kernel
theorem dX10_drumBeats_18 : decode cX10_drumBeats 18 = .ok (.getfield 91, 3) := by decide +kernel
theorem dX10_drumBeats_21 : decode cX10_drumBeats 21 = .ok (.bipush 100, 2) := by decide +kernel
theorem dX10_drumBeats_23 : decode cX10_drumBeats 23 = .ok (.if_icmp .ne 35, 3) := by decide +kernel
theorem dX10_drumBeats_26 : decode cX10_drumBeats 26 = .ok (.aload_n 2, 1) := by decide +kernel
theorem dX10_drumBeats_27 : decode cX10_drumBeats 27 = .ok (.getfield 132, 3) := by decide +kernel
theorem dX10_drumBeats_30 : decode cX10_drumBeats 30 = .ok (.invokestatic 176, 3) := by decide +kernel
theorem dX10_drumBeats_33 : decode cX10_drumBeats 33 = .ok (.aload_n 2, 1) := by decide +kernel
theorem dX10_drumBeats_34 : decode cX10_drumBeats 34 = .ok (.getfield 138, 3) := by decide +kernel
theorem dX10_drumBeats_37 : decode cX10_drumBeats 37 = .ok (.invokestatic 179, 3) := by decide +kernel
theorem dX10_drumBeats_40 : decode cX10_drumBeats 40 = .ok (.ifCond .eq 8, 3) := by decide +kernel
theorem dX10_drumBeats_43 : decode cX10_drumBeats 43 = .ok (.aload_n 0, 1) := by decide +kernel
theorem dX10_drumBeats_44 : decode cX10_drumBeats 44 = .ok (.aload_n 2, 1) := by decide +kernel
theorem dX10_drumBeats_45 : decode cX10_drumBeats 45 = .ok (.invokevirtual 183, 3) := by decide +kernel
theorem dX10_drumBeats_48 : decode cX10_drumBeats 48 = .ok (.aload_n 2, 1) := by decide +kernel
theorem dX10_drumBeats_49 : decode cX10_drumBeats 49 = .ok (.dup, 1) := by decide +kernel
theorem dX10_drumBeats_50 : decode cX10_drumBeats 50 = .ok (.getfield 138, 3) := by decide +kernel
theorem dX10_drumBeats_53 : decode cX10_drumBeats 53 = .ok (.iconst 1, 1) := by decide +kernel
theorem dX10_drumBeats_54 : decode cX10_drumBeats 54 = .ok (.iadd, 1) := by decide +kernel
theorem dX10_drumBeats_55 : decode cX10_drumBeats 55 = .ok (.putfield 138, 3) := by decide +kernel
theorem dX10_drumBeats_58 : decode cX10_drumBeats 58 = .ok (.iinc 1 1, 3) := by decide +kernel
theorem dX10_drumBeats_61 : decode cX10_drumBeats 61 = .ok (.goto (-59), 3) := by decide +kernel
theorem dX10_drumBeats_64 : decode cX10_drumBeats 64 = .ok (.return_, 1) := by decide +kernel
theorem dX10_thump_0 : decode cX10_thump 0 = .ok (.aload_n 0, 1) := by decide +kernel
theorem dX10_thump_1 : decode cX10_thump 1 = .ok (.aload_n 1, 1) := by decide +kernel
theorem dX10_thump_2 : decode cX10_thump 2 = .ok (.getfield 95, 3) := by decide +kernel
theorem dX10_thump_5 : decode cX10_thump 5 = .ok (.invokevirtual 173, 3) := by decide +kernel
theorem dX10_thump_8 : decode cX10_thump 8 = .ok (.istore_n 2, 1) := by decide +kernel
theorem dX10_thump_9 : decode cX10_thump 9 = .ok (.iconst 0, 1) := by decide +kernel
theorem dX10_thump_10 : decode cX10_thump 10 = .ok (.istore_n 3, 1) := by decide +kernel
theorem dX10_thump_11 : decode cX10_thump 11 = .ok (.iload_n 3, 1) := by decide +kernel
theorem dX10_thump_12 : decode cX10_thump 12 = .ok (.bipush 8, 2) := by decide +kernel
theorem dX10_thump_14 : decode cX10_thump 14 = .ok (.if_icmp .ge 72, 3) := by decide +kernel
theorem dX10_thump_17 : decode cX10_thump 17 = .ok (.aload_n 0, 1) := by decide +kernel
theorem dX10_thump_18 : decode cX10_thump 18 = .ok (.getfield 12, 3) := by decide +kernel
theorem dX10_thump_21 : decode cX10_thump 21 = .ok (.iload_n 2, 1) := by decide +kernel
theorem dX10_thump_22 : decode cX10_thump 22 = .ok (.iload_n 3, 1) := by decide +kernel
theorem dX10_thump_23 : decode cX10_thump 23 = .ok (.invokevirtual 186, 3) := by decide +kernel
theorem dX10_thump_26 : decode cX10_thump 26 = .ok (.istore 4, 2) := by decide +kernel
theorem dX10_thump_28 : decode cX10_thump 28 = .ok (.iload 4, 2) := by decide +kernel
theorem dX10_thump_30 : decode cX10_thump 30 = .ok (.sipush 1000, 3) := by decide +kernel
theorem dX10_thump_33 : decode cX10_thump 33 = .ok (.if_icmp .ne 16, 3) := by decide +kernel
theorem dX10_thump_36 : decode cX10_thump 36 = .ok (.aload_n 1, 1) := by decide +kernel
theorem dX10_thump_37 : decode cX10_thump 37 = .ok (.aload_n 1, 1) := by decide +kernel
theorem dX10_thump_38 : decode cX10_thump 38 = .ok (.getfield 138, 3) := by decide +kernel
theorem dX10_thump_41 : decode cX10_thump 41 = .ok (.iload_n 3, 1) := by decide +kernel
theorem dX10_thump_42 : decode cX10_thump 42 = .ok (.iconst (-1), 1) := by decide +kernel
theorem dX10_thump_43 : decode cX10_thump 43 = .ok (.invokevirtual 190, 3) := by decide +kernel
theorem dX10_thump_46 : decode cX10_thump 46 = .ok (.goto 34, 3) := by decide +kernel
theorem dX10_thump_49 : decode cX10_thump 49 = .ok (.aload_n 1, 1) := by decide +kernel
theorem dX10_thump_50 : decode cX10_thump 50 = .ok (.aload_n 1, 1) := by decide +kernel
theorem dX10_thump_51 : decode cX10_thump 51 = .ok (.getfield 138, 3) := by decide +kernel
theorem dX10_thump_54 : decode cX10_thump 54 = .ok (.iload_n 3, 1) := by decide +kernel
theorem dX10_thump_55 : decode cX10_thump 55 = .ok (.aload_n 0, 1) := by decide +kernel
theorem dX10_thump_56 : decode cX10_thump 56 = .ok (.getfield 62, 3) := by decide +kernel
theorem dX10_thump_59 : decode cX10_thump 59 = .ok (.iload 4, 2) := by decide +kernel
theorem dX10_thump_61 : decode cX10_thump 61 = .ok (.iadd, 1) := by decide +kernel
theorem dX10_thump_62 : decode cX10_thump 62 = .ok (.invokevirtual 190, 3) := by decide +kernel
theorem dX10_thump_65 : decode cX10_thump 65 = .ok (.aload_n 0, 1) := by decide +kernel
theorem dX10_thump_66 : decode cX10_thump 66 = .ok (.getfield 33, 3) := by decide +kernel
theorem dX10_thump_69 : decode cX10_thump 69 = .ok (.iload_n 3, 1) := by decide +kernel
theorem dX10_thump_70 : decode cX10_thump 70 = .ok (.aload_n 0, 1) := by decide +kernel
theorem dX10_thump_71 : decode cX10_thump 71 = .ok (.getfield 62, 3) := by decide +kernel
theorem dX10_thump_74 : decode cX10_thump 74 = .ok (.iload 4, 2) := by decide +kernel
theorem dX10_thump_76 : decode cX10_thump 76 = .ok (.iadd, 1) := by decide +kernel
theorem dX10_thump_77 : decode cX10_thump 77 = .ok (.invokevirtual 194, 3) := by decide +kernel
theorem dX10_thump_80 : decode cX10_thump 80 = .ok (.iinc 3 1, 3) := by decide +kernel
theorem dX10_thump_83 : decode cX10_thump 83 = .ok (.goto (-72), 3) := by decide +kernel
theorem dX10_thump_86 : decode cX10_thump 86 = .ok (.aload_n 0, 1) := by decide +kernel
theorem dX10_thump_87 : decode cX10_thump 87 = .ok (.dup, 1) := by decide +kernel
theorem dX10_thump_88 : decode cX10_thump 88 = .ok (.getfield 65, 3) := by decide +kernel
theorem dX10_thump_91 : decode cX10_thump 91 = .ok (.iconst 1, 1) := by decide +kernel
theorem dX10_thump_92 : decode cX10_thump 92 = .ok (.iadd, 1) := by decide +kernel
theorem dX10_thump_93 : decode cX10_thump 93 = .ok (.putfield 65, 3) := by decide +kernel
theorem dX10_thump_96 : decode cX10_thump 96 = .ok (.return_, 1) := by decide +kernel
theorem dX10_decideDeliveries_0 : decode cX10_decideDeliveries 0 = .ok (.iconst 0, 1) := by decide +kernel
theorem dX10_decideDeliveries_1 : decode cX10_decideDeliveries 1 = .ok (.istore_n 1, 1) := by decide +kernel
theorem dX10_decideDeliveries_2 : decode cX10_decideDeliveries 2 = .ok (.iload_n 1, 1) := by decide +kernel
theorem dX10_decideDeliveries_3 : decode cX10_decideDeliveries 3 = .ok (.aload_n 0, 1) := by decide +kernel
theorem dX10_decideDeliveries_4 : decode cX10_decideDeliveries 4 = .ok (.getfield 50, 3) := by decide +kernel
theorem dX10_decideDeliveries_7 : decode cX10_decideDeliveries 7 = .ok (.if_icmp .ge 63, 3) := by decide +kernel
theorem dX10_decideDeliveries_10 : decode cX10_decideDeliveries 10 = .ok (.aload_n 0, 1) := by decide +kernel
theorem dX10_decideDeliveries_11 : decode cX10_decideDeliveries 11 = .ok (.getfield 26, 3) := by decide +kernel
theorem dX10_decideDeliveries_14 : decode cX10_decideDeliveries 14 = .ok (.iload_n 1, 1) := by decide +kernel
theorem dX10_decideDeliveries_15 : decode cX10_decideDeliveries 15 = .ok (.aaload, 1) := by decide +kernel
theorem dX10_decideDeliveries_16 : decode cX10_decideDeliveries 16 = .ok (.astore_n 2, 1) := by decide +kernel
theorem dX10_decideDeliveries_17 : decode cX10_decideDeliveries 17 = .ok (.aload_n 2, 1) := by decide +kernel
theorem dX10_decideDeliveries_18 : decode cX10_decideDeliveries 18 = .ok (.getfield 91, 3) := by decide +kernel
theorem dX10_decideDeliveries_21 : decode cX10_decideDeliveries 21 = .ok (.bipush 100, 2) := by decide +kernel
theorem dX10_decideDeliveries_23 : decode cX10_decideDeliveries 23 = .ok (.if_icmp .ne 41, 3) := by decide +kernel
theorem dX10_decideDeliveries_26 : decode cX10_decideDeliveries 26 = .ok (.aload_n 2, 1) := by decide +kernel
theorem dX10_decideDeliveries_27 : decode cX10_decideDeliveries 27 = .ok (.getfield 138, 3) := by decide +kernel
theorem dX10_decideDeliveries_30 : decode cX10_decideDeliveries 30 = .ok (.iconst 5, 1) := by decide +kernel
theorem dX10_decideDeliveries_31 : decode cX10_decideDeliveries 31 = .ok (.if_icmp .lt 33, 3) := by decide +kernel
theorem dX10_decideDeliveries_34 : decode cX10_decideDeliveries 34 = .ok (.aload_n 0, 1) := by decide +kernel
theorem dX10_decideDeliveries_35 : decode cX10_decideDeliveries 35 = .ok (.aload_n 2, 1) := by decide +kernel
theorem dX10_decideDeliveries_36 : decode cX10_decideDeliveries 36 = .ok (.invokevirtual 198, 3) := by decide +kernel
theorem dX10_decideDeliveries_39 : decode cX10_decideDeliveries 39 = .ok (.ifCond .eq 11, 3) := by decide +kernel
theorem dX10_decideDeliveries_42 : decode cX10_decideDeliveries 42 = .ok (.aload_n 0, 1) := by decide +kernel
theorem dX10_decideDeliveries_43 : decode cX10_decideDeliveries 43 = .ok (.aload_n 2, 1) := by decide +kernel
theorem dX10_decideDeliveries_44 : decode cX10_decideDeliveries 44 = .ok (.invokevirtual 202, 3) := by decide +kernel
theorem dX10_decideDeliveries_47 : decode cX10_decideDeliveries 47 = .ok (.goto 17, 3) := by decide +kernel
theorem dX10_decideDeliveries_50 : decode cX10_decideDeliveries 50 = .ok (.aload_n 2, 1) := by decide +kernel
theorem dX10_decideDeliveries_51 : decode cX10_decideDeliveries 51 = .ok (.invokevirtual 205, 3) := by decide +kernel
theorem dX10_decideDeliveries_54 : decode cX10_decideDeliveries 54 = .ok (.aload_n 0, 1) := by decide +kernel
theorem dX10_decideDeliveries_55 : decode cX10_decideDeliveries 55 = .ok (.dup, 1) := by decide +kernel
theorem dX10_decideDeliveries_56 : decode cX10_decideDeliveries 56 = .ok (.getfield 71, 3) := by decide +kernel
theorem dX10_decideDeliveries_59 : decode cX10_decideDeliveries 59 = .ok (.iconst 1, 1) := by decide +kernel
theorem dX10_decideDeliveries_60 : decode cX10_decideDeliveries 60 = .ok (.iadd, 1) := by decide +kernel
theorem dX10_decideDeliveries_61 : decode cX10_decideDeliveries 61 = .ok (.putfield 71, 3) := by decide +kernel
theorem dX10_decideDeliveries_64 : decode cX10_decideDeliveries 64 = .ok (.iinc 1 1, 3) := by decide +kernel
theorem dX10_decideDeliveries_67 : decode cX10_decideDeliveries 67 = .ok (.goto (-65), 3) := by decide +kernel
theorem dX10_decideDeliveries_70 : decode cX10_decideDeliveries 70 = .ok (.return_, 1) := by decide +kernel
theorem dX10_isUnderstood_0 : decode cX10_isUnderstood 0 = .ok (.aload_n 0, 1) := by decide +kernel
theorem dX10_isUnderstood_1 : decode cX10_isUnderstood 1 = .ok (.aload_n 1, 1) := by decide +kernel
theorem dX10_isUnderstood_2 : decode cX10_isUnderstood 2 = .ok (.getfield 129, 3) := by decide +kernel
theorem dX10_isUnderstood_5 : decode cX10_isUnderstood 5 = .ok (.invokevirtual 173, 3) := by decide +kernel
theorem dX10_isUnderstood_8 : decode cX10_isUnderstood 8 = .ok (.istore_n 2, 1) := by decide +kernel
theorem dX10_isUnderstood_9 : decode cX10_isUnderstood 9 = .ok (.aload_n 0, 1) := by decide +kernel
theorem dX10_isUnderstood_10 : decode cX10_isUnderstood 10 = .ok (.aload_n 1, 1) := by decide +kernel
theorem dX10_isUnderstood_11 : decode cX10_isUnderstood 11 = .ok (.getfield 129, 3) := by decide +kernel
theorem dX10_isUnderstood_14 : decode cX10_isUnderstood 14 = .ok (.invokevirtual 208, 3) := by decide +kernel
theorem dX10_isUnderstood_17 : decode cX10_isUnderstood 17 = .ok (.ifCond .eq 25, 3) := by decide +kernel
theorem dX10_isUnderstood_20 : decode cX10_isUnderstood 20 = .ok (.aload_n 0, 1) := by decide +kernel
theorem dX10_isUnderstood_21 : decode cX10_isUnderstood 21 = .ok (.getfield 12, 3) := by decide +kernel
theorem dX10_isUnderstood_24 : decode cX10_isUnderstood 24 = .ok (.aload_n 0, 1) := by decide +kernel
theorem dX10_isUnderstood_25 : decode cX10_isUnderstood 25 = .ok (.aload_n 1, 1) := by decide +kernel
theorem dX10_isUnderstood_26 : decode cX10_isUnderstood 26 = .ok (.getfield 95, 3) := by decide +kernel
theorem dX10_isUnderstood_29 : decode cX10_isUnderstood 29 = .ok (.invokevirtual 173, 3) := by decide +kernel
theorem dX10_isUnderstood_32 : decode cX10_isUnderstood 32 = .ok (.iload_n 2, 1) := by decide +kernel
theorem dX10_isUnderstood_33 : decode cX10_isUnderstood 33 = .ok (.invokevirtual 186, 3) := by decide +kernel
theorem dX10_isUnderstood_36 : decode cX10_isUnderstood 36 = .ok (.sipush 1000, 3) := by decide +kernel
theorem dX10_isUnderstood_39 : decode cX10_isUnderstood 39 = .ok (.if_icmp .ne 5, 3) := by decide +kernel
theorem dX10_isUnderstood_42 : decode cX10_isUnderstood 42 = .ok (.iconst 0, 1) := by decide +kernel
theorem dX10_isUnderstood_43 : decode cX10_isUnderstood 43 = .ok (.ireturn, 1) := by decide +kernel
theorem dX10_isUnderstood_44 : decode cX10_isUnderstood 44 = .ok (.aload_n 1, 1) := by decide +kernel
theorem dX10_isUnderstood_45 : decode cX10_isUnderstood 45 = .ok (.getfield 132, 3) := by decide +kernel
theorem dX10_isUnderstood_48 : decode cX10_isUnderstood 48 = .ok (.invokestatic 176, 3) := by decide +kernel
theorem dX10_isUnderstood_51 : decode cX10_isUnderstood 51 = .ok (.istore_n 3, 1) := by decide +kernel
theorem dX10_isUnderstood_52 : decode cX10_isUnderstood 52 = .ok (.iconst 0, 1) := by decide +kernel
theorem dX10_isUnderstood_53 : decode cX10_isUnderstood 53 = .ok (.istore 4, 2) := by decide +kernel
theorem dX10_isUnderstood_55 : decode cX10_isUnderstood 55 = .ok (.iload 4, 2) := by decide +kernel
theorem dX10_isUnderstood_57 : decode cX10_isUnderstood 57 = .ok (.iconst 5, 1) := by decide +kernel
theorem dX10_isUnderstood_58 : decode cX10_isUnderstood 58 = .ok (.if_icmp .ge 49, 3) := by decide +kernel
theorem dX10_isUnderstood_61 : decode cX10_isUnderstood 61 = .ok (.iload_n 3, 1) := by decide +kernel
theorem dX10_isUnderstood_62 : decode cX10_isUnderstood 62 = .ok (.iload 4, 2) := by decide +kernel
theorem dX10_isUnderstood_64 : decode cX10_isUnderstood 64 = .ok (.invokestatic 179, 3) := by decide +kernel
theorem dX10_isUnderstood_67 : decode cX10_isUnderstood 67 = .ok (.ifCond .eq 34, 3) := by decide +kernel
theorem dX10_isUnderstood_70 : decode cX10_isUnderstood 70 = .ok (.aload_n 1, 1) := by decide +kernel
theorem dX10_isUnderstood_71 : decode cX10_isUnderstood 71 = .ok (.iload 4, 2) := by decide +kernel
theorem dX10_isUnderstood_73 : decode cX10_isUnderstood 73 = .ok (.iload_n 2, 1) := by decide +kernel
theorem dX10_isUnderstood_74 : decode cX10_isUnderstood 74 = .ok (.invokevirtual 210, 3) := by decide +kernel
theorem dX10_isUnderstood_77 : decode cX10_isUnderstood 77 = .ok (.istore 5, 2) := by decide +kernel
theorem dX10_isUnderstood_79 : decode cX10_isUnderstood 79 = .ok (.iload 5, 2) := by decide +kernel
theorem dX10_isUnderstood_81 : decode cX10_isUnderstood 81 = .ok (.iconst (-1), 1) := by decide +kernel
theorem dX10_isUnderstood_82 : decode cX10_isUnderstood 82 = .ok (.if_icmp .eq 17, 3) := by decide +kernel
theorem dX10_isUnderstood_85 : decode cX10_isUnderstood 85 = .ok (.aload_n 0, 1) := by decide +kernel
theorem dX10_isUnderstood_86 : decode cX10_isUnderstood 86 = .ok (.getfield 33, 3) := by decide +kernel
theorem dX10_isUnderstood_89 : decode cX10_isUnderstood 89 = .ok (.iload_n 2, 1) := by decide +kernel
theorem dX10_isUnderstood_90 : decode cX10_isUnderstood 90 = .ok (.iload 5, 2) := by decide +kernel
theorem dX10_isUnderstood_92 : decode cX10_isUnderstood 92 = .ok (.invokevirtual 213, 3) := by decide +kernel
theorem dX10_isUnderstood_95 : decode cX10_isUnderstood 95 = .ok (.iconst 1, 1) := by decide +kernel
theorem dX10_isUnderstood_96 : decode cX10_isUnderstood 96 = .ok (.if_icmp .eq 5, 3) := by decide +kernel
theorem dX10_isUnderstood_99 : decode cX10_isUnderstood 99 = .ok (.iconst 0, 1) := by decide +kernel
theorem dX10_isUnderstood_100 : decode cX10_isUnderstood 100 = .ok (.ireturn, 1) := by decide +kernel
theorem dX10_isUnderstood_101 : decode cX10_isUnderstood 101 = .ok (.iinc 4 1, 3) := by decide +kernel
theorem dX10_isUnderstood_104 : decode cX10_isUnderstood 104 = .ok (.goto (-49), 3) := by decide +kernel
theorem dX10_isUnderstood_107 : decode cX10_isUnderstood 107 = .ok (.iconst 1, 1) := by decide +kernel
theorem dX10_isUnderstood_108 : decode cX10_isUnderstood 108 = .ok (.ireturn, 1) := by decide +kernel
theorem dX10_deliver_0 : decode cX10_deliver 0 = .ok (.aload_n 1, 1) := by decide +kernel
theorem dX10_deliver_1 : decode cX10_deliver 1 = .ok (.invokevirtual 216, 3) := by decide +kernel
theorem dX10_deliver_4 : decode cX10_deliver 4 = .ok (.aload_n 0, 1) := by decide +kernel
theorem dX10_deliver_5 : decode cX10_deliver 5 = .ok (.dup, 1) := by decide +kernel
theorem dX10_deliver_6 : decode cX10_deliver 6 = .ok (.getfield 68, 3) := by decide +kernel
theorem dX10_deliver_9 : decode cX10_deliver 9 = .ok (.iconst 1, 1) := by decide +kernel
theorem dX10_deliver_10 : decode cX10_deliver 10 = .ok (.iadd, 1) := by decide +kernel
theorem dX10_deliver_11 : decode cX10_deliver 11 = .ok (.putfield 68, 3) := by decide +kernel
theorem dX10_deliver_14 : decode cX10_deliver 14 = .ok (.aload_n 0, 1) := by decide +kernel
theorem dX10_deliver_15 : decode cX10_deliver 15 = .ok (.aload_n 1, 1) := by decide +kernel
theorem dX10_deliver_16 : decode cX10_deliver 16 = .ok (.getfield 129, 3) := by decide +kernel
theorem dX10_deliver_19 : decode cX10_deliver 19 = .ok (.invokevirtual 74, 3) := by decide +kernel
theorem dX10_deliver_22 : decode cX10_deliver 22 = .ok (.ifCond .eq 31, 3) := by decide +kernel
theorem dX10_deliver_25 : decode cX10_deliver 25 = .ok (.aload_n 0, 1) := by decide +kernel
theorem dX10_deliver_26 : decode cX10_deliver 26 = .ok (.getfield 20, 3) := by decide +kernel
theorem dX10_deliver_29 : decode cX10_deliver 29 = .ok (.aload_n 1, 1) := by decide +kernel
theorem dX10_deliver_30 : decode cX10_deliver 30 = .ok (.getfield 129, 3) := by decide +kernel
theorem dX10_deliver_33 : decode cX10_deliver 33 = .ok (.aaload, 1) := by decide +kernel
theorem dX10_deliver_34 : decode cX10_deliver 34 = .ok (.astore_n 2, 1) := by decide +kernel
theorem dX10_deliver_35 : decode cX10_deliver 35 = .ok (.aload_n 2, 1) := by decide +kernel
theorem dX10_deliver_36 : decode cX10_deliver 36 = .ok (.dup, 1) := by decide +kernel
theorem dX10_deliver_37 : decode cX10_deliver 37 = .ok (.getfield 85, 3) := by decide +kernel
theorem dX10_deliver_40 : decode cX10_deliver 40 = .ok (.iconst 1, 1) := by decide +kernel
theorem dX10_deliver_41 : decode cX10_deliver 41 = .ok (.iadd, 1) := by decide +kernel
theorem dX10_deliver_42 : decode cX10_deliver 42 = .ok (.putfield 85, 3) := by decide +kernel
theorem dX10_deliver_45 : decode cX10_deliver 45 = .ok (.aload_n 2, 1) := by decide +kernel
theorem dX10_deliver_46 : decode cX10_deliver 46 = .ok (.aload_n 1, 1) := by decide +kernel
theorem dX10_deliver_47 : decode cX10_deliver 47 = .ok (.getfield 132, 3) := by decide +kernel
theorem dX10_deliver_50 : decode cX10_deliver 50 = .ok (.putfield 88, 3) := by decide +kernel
theorem dX10_deliver_53 : decode cX10_deliver 53 = .ok (.return_, 1) := by decide +kernel
theorem dX10_isDrummedByOneEach_0 : decode cX10_isDrummedByOneEach 0 = .ok (.iconst 0, 1) := by decide +kernel
theorem dX10_isDrummedByOneEach_1 : decode cX10_isDrummedByOneEach 1 = .ok (.istore_n 1, 1) := by decide +kernel
theorem dX10_isDrummedByOneEach_2 : decode cX10_isDrummedByOneEach 2 = .ok (.iconst 0, 1) := by decide +kernel
theorem dX10_isDrummedByOneEach_3 : decode cX10_isDrummedByOneEach 3 = .ok (.istore_n 2, 1) := by decide +kernel
theorem dX10_isDrummedByOneEach_4 : decode cX10_isDrummedByOneEach 4 = .ok (.iload_n 2, 1) := by decide +kernel
theorem dX10_isDrummedByOneEach_5 : decode cX10_isDrummedByOneEach 5 = .ok (.aload_n 0, 1) := by decide +kernel
theorem dX10_isDrummedByOneEach_6 : decode cX10_isDrummedByOneEach 6 = .ok (.getfield 50, 3) := by decide +kernel
theorem dX10_isDrummedByOneEach_9 : decode cX10_isDrummedByOneEach 9 = .ok (.if_icmp .ge 51, 3) := by decide +kernel
theorem dX10_isDrummedByOneEach_12 : decode cX10_isDrummedByOneEach 12 = .ok (.aload_n 0, 1) := by decide +kernel
theorem dX10_isDrummedByOneEach_13 : decode cX10_isDrummedByOneEach 13 = .ok (.getfield 26, 3) := by decide +kernel
theorem dX10_isDrummedByOneEach_16 : decode cX10_isDrummedByOneEach 16 = .ok (.iload_n 2, 1) := by decide +kernel
theorem dX10_isDrummedByOneEach_17 : decode cX10_isDrummedByOneEach 17 = .ok (.aaload, 1) := by decide +kernel
theorem dX10_isDrummedByOneEach_18 : decode cX10_isDrummedByOneEach 18 = .ok (.astore_n 3, 1) := by decide +kernel
theorem dX10_isDrummedByOneEach_19 : decode cX10_isDrummedByOneEach 19 = .ok (.aload_n 3, 1) := by decide +kernel
theorem dX10_isDrummedByOneEach_20 : decode cX10_isDrummedByOneEach 20 = .ok (.getfield 91, 3) := by decide +kernel
theorem dX10_isDrummedByOneEach_23 : decode cX10_isDrummedByOneEach 23 = .ok (.bipush 100, 2) := by decide +kernel
theorem dX10_isDrummedByOneEach_25 : decode cX10_isDrummedByOneEach 25 = .ok (.if_icmp .ne 29, 3) := by decide +kernel
theorem dX10_isDrummedByOneEach_28 : decode cX10_isDrummedByOneEach 28 = .ok (.iconst 1, 1) := by decide +kernel
theorem dX10_isDrummedByOneEach_29 : decode cX10_isDrummedByOneEach 29 = .ok (.aload_n 0, 1) := by decide +kernel
theorem dX10_isDrummedByOneEach_30 : decode cX10_isDrummedByOneEach 30 = .ok (.aload_n 3, 1) := by decide +kernel
theorem dX10_isDrummedByOneEach_31 : decode cX10_isDrummedByOneEach 31 = .ok (.getfield 95, 3) := by decide +kernel
theorem dX10_isDrummedByOneEach_34 : decode cX10_isDrummedByOneEach 34 = .ok (.invokevirtual 173, 3) := by decide +kernel
theorem dX10_isDrummedByOneEach_37 : decode cX10_isDrummedByOneEach 37 = .ok (.ishl, 1) := by decide +kernel
theorem dX10_isDrummedByOneEach_38 : decode cX10_isDrummedByOneEach 38 = .ok (.istore 4, 2) := by decide +kernel
theorem dX10_isDrummedByOneEach_40 : decode cX10_isDrummedByOneEach 40 = .ok (.iload_n 1, 1) := by decide +kernel
theorem dX10_isDrummedByOneEach_41 : decode cX10_isDrummedByOneEach 41 = .ok (.iload 4, 2) := by decide +kernel
theorem dX10_isDrummedByOneEach_43 : decode cX10_isDrummedByOneEach 43 = .ok (.iand, 1) := by decide +kernel
theorem dX10_isDrummedByOneEach_44 : decode cX10_isDrummedByOneEach 44 = .ok (.ifCond .eq 5, 3) := by decide +kernel
theorem dX10_isDrummedByOneEach_47 : decode cX10_isDrummedByOneEach 47 = .ok (.iconst 0, 1) := by decide +kernel
theorem dX10_isDrummedByOneEach_48 : decode cX10_isDrummedByOneEach 48 = .ok (.ireturn, 1) := by decide +kernel
theorem dX10_isDrummedByOneEach_49 : decode cX10_isDrummedByOneEach 49 = .ok (.iload_n 1, 1) := by decide +kernel
theorem dX10_isDrummedByOneEach_50 : decode cX10_isDrummedByOneEach 50 = .ok (.iload 4, 2) := by decide +kernel
theorem dX10_isDrummedByOneEach_52 : decode cX10_isDrummedByOneEach 52 = .ok (.ior, 1) := by decide +kernel
theorem dX10_isDrummedByOneEach_53 : decode cX10_isDrummedByOneEach 53 = .ok (.istore_n 1, 1) := by decide +kernel
theorem dX10_isDrummedByOneEach_54 : decode cX10_isDrummedByOneEach 54 = .ok (.iinc 2 1, 3) := by decide +kernel
theorem dX10_isDrummedByOneEach_57 : decode cX10_isDrummedByOneEach 57 = .ok (.goto (-53), 3) := by decide +kernel
theorem dX10_isDrummedByOneEach_60 : decode cX10_isDrummedByOneEach 60 = .ok (.iconst 1, 1) := by decide +kernel
theorem dX10_isDrummedByOneEach_61 : decode cX10_isDrummedByOneEach 61 = .ok (.ireturn, 1) := by decide +kernel
