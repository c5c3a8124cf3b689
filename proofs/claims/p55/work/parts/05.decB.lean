theorem dX11_init_0 : decode cX11_init 0 = .ok (.aload_n 0, 1) := by decide +kernel
theorem dX11_init_1 : decode cX11_init 1 = .ok (.invokespecial 3, 3) := by decide +kernel
theorem dX11_init_4 : decode cX11_init 4 = .ok (.aload_n 0, 1) := by decide +kernel
theorem dX11_init_5 : decode cX11_init 5 = .ok (.new 9, 3) := by decide +kernel
theorem dX11_init_8 : decode cX11_init 8 = .ok (.dup, 1) := by decide +kernel
theorem dX11_init_9 : decode cX11_init 9 = .ok (.invokespecial 11, 3) := by decide +kernel
theorem dX11_init_12 : decode cX11_init 12 = .ok (.putfield 12, 3) := by decide +kernel
theorem dX11_init_15 : decode cX11_init 15 = .ok (.aload_n 0, 1) := by decide +kernel
theorem dX11_init_16 : decode cX11_init 16 = .ok (.new 9, 3) := by decide +kernel
theorem dX11_init_19 : decode cX11_init 19 = .ok (.dup, 1) := by decide +kernel
theorem dX11_init_20 : decode cX11_init 20 = .ok (.invokespecial 11, 3) := by decide +kernel
theorem dX11_init_23 : decode cX11_init 23 = .ok (.putfield 16, 3) := by decide +kernel
theorem dX11_init_26 : decode cX11_init 26 = .ok (.aload_n 0, 1) := by decide +kernel
theorem dX11_init_27 : decode cX11_init 27 = .ok (.new 9, 3) := by decide +kernel
theorem dX11_init_30 : decode cX11_init 30 = .ok (.dup, 1) := by decide +kernel
theorem dX11_init_31 : decode cX11_init 31 = .ok (.invokespecial 11, 3) := by decide +kernel
theorem dX11_init_34 : decode cX11_init 34 = .ok (.putfield 19, 3) := by decide +kernel
theorem dX11_init_37 : decode cX11_init 37 = .ok (.aload_n 0, 1) := by decide +kernel
theorem dX11_init_38 : decode cX11_init 38 = .ok (.new 22, 3) := by decide +kernel
theorem dX11_init_41 : decode cX11_init 41 = .ok (.dup, 1) := by decide +kernel
theorem dX11_init_42 : decode cX11_init 42 = .ok (.invokespecial 24, 3) := by decide +kernel
theorem dX11_init_45 : decode cX11_init 45 = .ok (.putfield 25, 3) := by decide +kernel
theorem dX11_init_48 : decode cX11_init 48 = .ok (.aload_n 0, 1) := by decide +kernel
theorem dX11_init_49 : decode cX11_init 49 = .ok (.new 29, 3) := by decide +kernel
theorem dX11_init_52 : decode cX11_init 52 = .ok (.dup, 1) := by decide +kernel
theorem dX11_init_53 : decode cX11_init 53 = .ok (.invokespecial 31, 3) := by decide +kernel
theorem dX11_init_56 : decode cX11_init 56 = .ok (.putfield 32, 3) := by decide +kernel
theorem dX11_init_59 : decode cX11_init 59 = .ok (.aload_n 0, 1) := by decide +kernel
theorem dX11_init_60 : decode cX11_init 60 = .ok (.new 36, 3) := by decide +kernel
theorem dX11_init_63 : decode cX11_init 63 = .ok (.dup, 1) := by decide +kernel
theorem dX11_init_64 : decode cX11_init 64 = .ok (.invokespecial 38, 3) := by decide +kernel
theorem dX11_init_67 : decode cX11_init 67 = .ok (.putfield 39, 3) := by decide +kernel
theorem dX11_init_70 : decode cX11_init 70 = .ok (.aload_n 0, 1) := by decide +kernel
theorem dX11_init_71 : decode cX11_init 71 = .ok (.iconst (-1), 1) := by decide +kernel
theorem dX11_init_72 : decode cX11_init 72 = .ok (.putfield 43, 3) := by decide +kernel
theorem dX11_init_75 : decode cX11_init 75 = .ok (.aload_n 0, 1) := by decide +kernel
theorem dX11_init_76 : decode cX11_init 76 = .ok (.iconst (-1), 1) := by decide +kernel
theorem dX11_init_77 : decode cX11_init 77 = .ok (.putfield 47, 3) := by decide +kernel
theorem dX11_init_80 : decode cX11_init 80 = .ok (.return_, 1) := by decide +kernel
theorem dX11_addChamber_0 : decode cX11_addChamber 0 = .ok (.aload_n 0, 1) := by decide +kernel
theorem dX11_addChamber_1 : decode cX11_addChamber 1 = .ok (.getfield 25, 3) := by decide +kernel
theorem dX11_addChamber_4 : decode cX11_addChamber 4 = .ok (.aload_n 0, 1) := by decide +kernel
theorem dX11_addChamber_5 : decode cX11_addChamber 5 = .ok (.getfield 12, 3) := by decide +kernel
theorem dX11_addChamber_8 : decode cX11_addChamber 8 = .ok (.invokevirtual 50, 3) := by decide +kernel
theorem dX11_addChamber_11 : decode cX11_addChamber 11 = .ok (.aload_n 0, 1) := by decide +kernel
theorem dX11_addChamber_12 : decode cX11_addChamber 12 = .ok (.getfield 12, 3) := by decide +kernel
theorem dX11_addChamber_15 : decode cX11_addChamber 15 = .ok (.getfield 54, 3) := by decide +kernel
theorem dX11_addChamber_18 : decode cX11_addChamber 18 = .ok (.invokevirtual 58, 3) := by decide +kernel
theorem dX11_addChamber_21 : decode cX11_addChamber 21 = .ok (.invokestatic 64, 3) := by decide +kernel
theorem dX11_addChamber_24 : decode cX11_addChamber 24 = .ok (.aload_n 0, 1) := by decide +kernel
theorem dX11_addChamber_25 : decode cX11_addChamber 25 = .ok (.getfield 25, 3) := by decide +kernel
theorem dX11_addChamber_28 : decode cX11_addChamber 28 = .ok (.invokevirtual 68, 3) := by decide +kernel
theorem dX11_addChamber_31 : decode cX11_addChamber 31 = .ok (.aload_n 0, 1) := by decide +kernel
theorem dX11_addChamber_32 : decode cX11_addChamber 32 = .ok (.getfield 12, 3) := by decide +kernel
theorem dX11_addChamber_35 : decode cX11_addChamber 35 = .ok (.getfield 54, 3) := by decide +kernel
theorem dX11_addChamber_38 : decode cX11_addChamber 38 = .ok (.getfield 71, 3) := by decide +kernel
theorem dX11_addChamber_41 : decode cX11_addChamber 41 = .ok (.iconst 1, 1) := by decide +kernel
theorem dX11_addChamber_42 : decode cX11_addChamber 42 = .ok (.isub, 1) := by decide +kernel
theorem dX11_addChamber_43 : decode cX11_addChamber 43 = .ok (.ireturn, 1) := by decide +kernel
theorem dX11_addTunnel_0 : decode cX11_addTunnel 0 = .ok (.aload_n 0, 1) := by decide +kernel
theorem dX11_addTunnel_1 : decode cX11_addTunnel 1 = .ok (.getfield 25, 3) := by decide +kernel
theorem dX11_addTunnel_4 : decode cX11_addTunnel 4 = .ok (.aload_n 0, 1) := by decide +kernel
theorem dX11_addTunnel_5 : decode cX11_addTunnel 5 = .ok (.getfield 12, 3) := by decide +kernel
theorem dX11_addTunnel_8 : decode cX11_addTunnel 8 = .ok (.invokevirtual 50, 3) := by decide +kernel
theorem dX11_addTunnel_11 : decode cX11_addTunnel 11 = .ok (.aload_n 0, 1) := by decide +kernel
theorem dX11_addTunnel_12 : decode cX11_addTunnel 12 = .ok (.getfield 12, 3) := by decide +kernel
theorem dX11_addTunnel_15 : decode cX11_addTunnel 15 = .ok (.getfield 54, 3) := by decide +kernel
theorem dX11_addTunnel_18 : decode cX11_addTunnel 18 = .ok (.iload_n 1, 1) := by decide +kernel
theorem dX11_addTunnel_19 : decode cX11_addTunnel 19 = .ok (.iload_n 2, 1) := by decide +kernel
theorem dX11_addTunnel_20 : decode cX11_addTunnel 20 = .ok (.iload_n 3, 1) := by decide +kernel
theorem dX11_addTunnel_21 : decode cX11_addTunnel 21 = .ok (.invokevirtual 74, 3) := by decide +kernel
theorem dX11_addTunnel_24 : decode cX11_addTunnel 24 = .ok (.invokestatic 64, 3) := by decide +kernel
theorem dX11_addTunnel_27 : decode cX11_addTunnel 27 = .ok (.aload_n 0, 1) := by decide +kernel
theorem dX11_addTunnel_28 : decode cX11_addTunnel 28 = .ok (.getfield 25, 3) := by decide +kernel
theorem dX11_addTunnel_31 : decode cX11_addTunnel 31 = .ok (.invokevirtual 68, 3) := by decide +kernel
theorem dX11_addTunnel_34 : decode cX11_addTunnel 34 = .ok (.aload_n 0, 1) := by decide +kernel
theorem dX11_addTunnel_35 : decode cX11_addTunnel 35 = .ok (.getfield 12, 3) := by decide +kernel
theorem dX11_addTunnel_38 : decode cX11_addTunnel 38 = .ok (.getfield 54, 3) := by decide +kernel
theorem dX11_addTunnel_41 : decode cX11_addTunnel 41 = .ok (.getfield 78, 3) := by decide +kernel
theorem dX11_addTunnel_44 : decode cX11_addTunnel 44 = .ok (.ireturn, 1) := by decide +kernel
theorem dX11_removeTunnel_0 : decode cX11_removeTunnel 0 = .ok (.aload_n 0, 1) := by decide +kernel
theorem dX11_removeTunnel_1 : decode cX11_removeTunnel 1 = .ok (.getfield 25, 3) := by decide +kernel
theorem dX11_removeTunnel_4 : decode cX11_removeTunnel 4 = .ok (.aload_n 0, 1) := by decide +kernel
theorem dX11_removeTunnel_5 : decode cX11_removeTunnel 5 = .ok (.getfield 12, 3) := by decide +kernel
theorem dX11_removeTunnel_8 : decode cX11_removeTunnel 8 = .ok (.invokevirtual 50, 3) := by decide +kernel
theorem dX11_removeTunnel_11 : decode cX11_removeTunnel 11 = .ok (.aload_n 0, 1) := by decide +kernel
theorem dX11_removeTunnel_12 : decode cX11_removeTunnel 12 = .ok (.getfield 12, 3) := by decide +kernel
theorem dX11_removeTunnel_15 : decode cX11_removeTunnel 15 = .ok (.getfield 54, 3) := by decide +kernel
theorem dX11_removeTunnel_18 : decode cX11_removeTunnel 18 = .ok (.iload_n 1, 1) := by decide +kernel
theorem dX11_removeTunnel_19 : decode cX11_removeTunnel 19 = .ok (.iload_n 2, 1) := by decide +kernel
theorem dX11_removeTunnel_20 : decode cX11_removeTunnel 20 = .ok (.invokevirtual 81, 3) := by decide +kernel
theorem dX11_removeTunnel_23 : decode cX11_removeTunnel 23 = .ok (.istore_n 3, 1) := by decide +kernel
theorem dX11_removeTunnel_24 : decode cX11_removeTunnel 24 = .ok (.aload_n 0, 1) := by decide +kernel
theorem dX11_removeTunnel_25 : decode cX11_removeTunnel 25 = .ok (.getfield 12, 3) := by decide +kernel
theorem dX11_removeTunnel_28 : decode cX11_removeTunnel 28 = .ok (.getfield 54, 3) := by decide +kernel
theorem dX11_removeTunnel_31 : decode cX11_removeTunnel 31 = .ok (.iload_n 1, 1) := by decide +kernel
theorem dX11_removeTunnel_32 : decode cX11_removeTunnel 32 = .ok (.iload_n 2, 1) := by decide +kernel
theorem dX11_removeTunnel_33 : decode cX11_removeTunnel 33 = .ok (.invokevirtual 85, 3) := by decide +kernel
theorem dX11_removeTunnel_36 : decode cX11_removeTunnel 36 = .ok (.invokestatic 64, 3) := by decide +kernel
theorem dX11_removeTunnel_39 : decode cX11_removeTunnel 39 = .ok (.aload_n 0, 1) := by decide +kernel
theorem dX11_removeTunnel_40 : decode cX11_removeTunnel 40 = .ok (.getfield 25, 3) := by decide +kernel
theorem dX11_removeTunnel_43 : decode cX11_removeTunnel 43 = .ok (.invokevirtual 68, 3) := by decide +kernel
theorem dX11_removeTunnel_46 : decode cX11_removeTunnel 46 = .ok (.iload_n 3, 1) := by decide +kernel
theorem dX11_removeTunnel_47 : decode cX11_removeTunnel 47 = .ok (.ireturn, 1) := by decide +kernel
theorem dX11_chamberCount_0 : decode cX11_chamberCount 0 = .ok (.aload_n 0, 1) := by decide +kernel
theorem dX11_chamberCount_1 : decode cX11_chamberCount 1 = .ok (.getfield 12, 3) := by decide +kernel
theorem dX11_chamberCount_4 : decode cX11_chamberCount 4 = .ok (.getfield 54, 3) := by decide +kernel
theorem dX11_chamberCount_7 : decode cX11_chamberCount 7 = .ok (.getfield 71, 3) := by decide +kernel
theorem dX11_chamberCount_10 : decode cX11_chamberCount 10 = .ok (.ireturn, 1) := by decide +kernel
theorem dX11_tunnelCount_0 : decode cX11_tunnelCount 0 = .ok (.aload_n 0, 1) := by decide +kernel
theorem dX11_tunnelCount_1 : decode cX11_tunnelCount 1 = .ok (.getfield 12, 3) := by decide +kernel
theorem dX11_tunnelCount_4 : decode cX11_tunnelCount 4 = .ok (.getfield 54, 3) := by decide +kernel
theorem dX11_tunnelCount_7 : decode cX11_tunnelCount 7 = .ok (.getfield 78, 3) := by decide +kernel
theorem dX11_tunnelCount_10 : decode cX11_tunnelCount 10 = .ok (.ireturn, 1) := by decide +kernel
theorem dX11_tunnelDelay_0 : decode cX11_tunnelDelay 0 = .ok (.aload_n 0, 1) := by decide +kernel
theorem dX11_tunnelDelay_1 : decode cX11_tunnelDelay 1 = .ok (.iload_n 1, 1) := by decide +kernel
theorem dX11_tunnelDelay_2 : decode cX11_tunnelDelay 2 = .ok (.invokevirtual 89, 3) := by decide +kernel
theorem dX11_tunnelDelay_5 : decode cX11_tunnelDelay 5 = .ok (.aload_n 0, 1) := by decide +kernel
theorem dX11_tunnelDelay_6 : decode cX11_tunnelDelay 6 = .ok (.iload_n 2, 1) := by decide +kernel
theorem dX11_tunnelDelay_7 : decode cX11_tunnelDelay 7 = .ok (.invokevirtual 89, 3) := by decide +kernel
theorem dX11_tunnelDelay_10 : decode cX11_tunnelDelay 10 = .ok (.aload_n 0, 1) := by decide +kernel
theorem dX11_tunnelDelay_11 : decode cX11_tunnelDelay 11 = .ok (.getfield 12, 3) := by decide +kernel
theorem dX11_tunnelDelay_14 : decode cX11_tunnelDelay 14 = .ok (.getfield 54, 3) := by decide +kernel
theorem dX11_tunnelDelay_17 : decode cX11_tunnelDelay 17 = .ok (.iload_n 1, 1) := by decide +kernel
theorem dX11_tunnelDelay_18 : decode cX11_tunnelDelay 18 = .ok (.iload_n 2, 1) := by decide +kernel
theorem dX11_tunnelDelay_19 : decode cX11_tunnelDelay 19 = .ok (.invokevirtual 81, 3) := by decide +kernel
theorem dX11_tunnelDelay_22 : decode cX11_tunnelDelay 22 = .ok (.istore_n 3, 1) := by decide +kernel
theorem dX11_tunnelDelay_23 : decode cX11_tunnelDelay 23 = .ok (.iload_n 3, 1) := by decide +kernel
theorem dX11_tunnelDelay_24 : decode cX11_tunnelDelay 24 = .ok (.ifCond .ne 13, 3) := by decide +kernel
theorem dX11_tunnelDelay_27 : decode cX11_tunnelDelay 27 = .ok (.new 93, 3) := by decide +kernel
theorem dX11_tunnelDelay_30 : decode cX11_tunnelDelay 30 = .ok (.dup, 1) := by decide +kernel
theorem dX11_tunnelDelay_31 : decode cX11_tunnelDelay 31 = .ok (.ldc 95, 2) := by decide +kernel
theorem dX11_tunnelDelay_33 : decode cX11_tunnelDelay 33 = .ok (.invokespecial 97, 3) := by decide +kernel
theorem dX11_tunnelDelay_36 : decode cX11_tunnelDelay 36 = .ok (.athrow, 1) := by decide +kernel
theorem dX11_tunnelDelay_37 : decode cX11_tunnelDelay 37 = .ok (.iload_n 3, 1) := by decide +kernel
theorem dX11_tunnelDelay_38 : decode cX11_tunnelDelay 38 = .ok (.ireturn, 1) := by decide +kernel
theorem dX11_shortestDelay_0 : decode cX11_shortestDelay 0 = .ok (.aload_n 0, 1) := by decide +kernel
theorem dX11_shortestDelay_1 : decode cX11_shortestDelay 1 = .ok (.iload_n 1, 1) := by decide +kernel
theorem dX11_shortestDelay_2 : decode cX11_shortestDelay 2 = .ok (.invokevirtual 89, 3) := by decide +kernel
theorem dX11_shortestDelay_5 : decode cX11_shortestDelay 5 = .ok (.aload_n 0, 1) := by decide +kernel
theorem dX11_shortestDelay_6 : decode cX11_shortestDelay 6 = .ok (.iload_n 2, 1) := by decide +kernel
theorem dX11_shortestDelay_7 : decode cX11_shortestDelay 7 = .ok (.invokevirtual 89, 3) := by decide +kernel
theorem dX11_shortestDelay_10 : decode cX11_shortestDelay 10 = .ok (.aload_n 0, 1) := by decide +kernel
theorem dX11_shortestDelay_11 : decode cX11_shortestDelay 11 = .ok (.getfield 12, 3) := by decide +kernel
theorem dX11_shortestDelay_14 : decode cX11_shortestDelay 14 = .ok (.getfield 54, 3) := by decide +kernel
theorem dX11_shortestDelay_17 : decode cX11_shortestDelay 17 = .ok (.iload_n 1, 1) := by decide +kernel
theorem dX11_shortestDelay_18 : decode cX11_shortestDelay 18 = .ok (.iload_n 2, 1) := by decide +kernel
theorem dX11_shortestDelay_19 : decode cX11_shortestDelay 19 = .ok (.invokevirtual 100, 3) := by decide +kernel
theorem dX11_shortestDelay_22 : decode cX11_shortestDelay 22 = .ok (.invokestatic 103, 3) := by decide +kernel
theorem dX11_shortestDelay_25 : decode cX11_shortestDelay 25 = .ok (.ireturn, 1) := by decide +kernel
theorem dX11_shortestDelayBySearch_0 : decode cX11_shortestDelayBySearch 0 = .ok (.aload_n 0, 1) := by decide +kernel
theorem dX11_shortestDelayBySearch_1 : decode cX11_shortestDelayBySearch 1 = .ok (.iload_n 1, 1) := by decide +kernel
theorem dX11_shortestDelayBySearch_2 : decode cX11_shortestDelayBySearch 2 = .ok (.invokevirtual 89, 3) := by decide +kernel
theorem dX11_shortestDelayBySearch_5 : decode cX11_shortestDelayBySearch 5 = .ok (.aload_n 0, 1) := by decide +kernel
theorem dX11_shortestDelayBySearch_6 : decode cX11_shortestDelayBySearch 6 = .ok (.iload_n 2, 1) := by decide +kernel
theorem dX11_shortestDelayBySearch_7 : decode cX11_shortestDelayBySearch 7 = .ok (.invokevirtual 89, 3) := by decide +kernel
theorem dX11_shortestDelayBySearch_10 : decode cX11_shortestDelayBySearch 10 = .ok (.aload_n 0, 1) := by decide +kernel
theorem dX11_shortestDelayBySearch_11 : decode cX11_shortestDelayBySearch 11 = .ok (.getfield 12, 3) := by decide +kernel
theorem dX11_shortestDelayBySearch_14 : decode cX11_shortestDelayBySearch 14 = .ok (.getfield 54, 3) := by decide +kernel
theorem dX11_shortestDelayBySearch_17 : decode cX11_shortestDelayBySearch 17 = .ok (.iload_n 1, 1) := by decide +kernel
theorem dX11_shortestDelayBySearch_18 : decode cX11_shortestDelayBySearch 18 = .ok (.iload_n 2, 1) := by decide +kernel
theorem dX11_shortestDelayBySearch_19 : decode cX11_shortestDelayBySearch 19 = .ok (.invokevirtual 107, 3) := by decide +kernel
theorem dX11_shortestDelayBySearch_22 : decode cX11_shortestDelayBySearch 22 = .ok (.invokestatic 103, 3) := by decide +kernel
theorem dX11_shortestDelayBySearch_25 : decode cX11_shortestDelayBySearch 25 = .ok (.ireturn, 1) := by decide +kernel
theorem dX11_loudness_0 : decode cX11_loudness 0 = .ok (.aload_n 0, 1) := by decide +kernel
theorem dX11_loudness_1 : decode cX11_loudness 1 = .ok (.iload_n 1, 1) := by decide +kernel
theorem dX11_loudness_2 : decode cX11_loudness 2 = .ok (.invokevirtual 89, 3) := by decide +kernel
theorem dX11_loudness_5 : decode cX11_loudness 5 = .ok (.aload_n 0, 1) := by decide +kernel
theorem dX11_loudness_6 : decode cX11_loudness 6 = .ok (.iload_n 2, 1) := by decide +kernel
theorem dX11_loudness_7 : decode cX11_loudness 7 = .ok (.invokevirtual 89, 3) := by decide +kernel
theorem dX11_loudness_10 : decode cX11_loudness 10 = .ok (.aload_n 0, 1) := by decide +kernel
theorem dX11_loudness_11 : decode cX11_loudness 11 = .ok (.getfield 12, 3) := by decide +kernel
theorem dX11_loudness_14 : decode cX11_loudness 14 = .ok (.getfield 54, 3) := by decide +kernel
theorem dX11_loudness_17 : decode cX11_loudness 17 = .ok (.iload_n 1, 1) := by decide +kernel
theorem dX11_loudness_18 : decode cX11_loudness 18 = .ok (.iload_n 2, 1) := by decide +kernel
theorem dX11_loudness_19 : decode cX11_loudness 19 = .ok (.invokevirtual 100, 3) := by decide +kernel
theorem dX11_loudness_22 : decode cX11_loudness 22 = .ok (.invokestatic 110, 3) := by decide +kernel
theorem dX11_loudness_25 : decode cX11_loudness 25 = .ok (.freturn, 1) := by decide +kernel
theorem dX11_loudnessBits_0 : decode cX11_loudnessBits 0 = .ok (.aload_n 0, 1) := by decide +kernel
theorem dX11_loudnessBits_1 : decode cX11_loudnessBits 1 = .ok (.iload_n 1, 1) := by decide +kernel
theorem dX11_loudnessBits_2 : decode cX11_loudnessBits 2 = .ok (.invokevirtual 89, 3) := by decide +kernel
theorem dX11_loudnessBits_5 : decode cX11_loudnessBits 5 = .ok (.aload_n 0, 1) := by decide +kernel
theorem dX11_loudnessBits_6 : decode cX11_loudnessBits 6 = .ok (.iload_n 2, 1) := by decide +kernel
theorem dX11_loudnessBits_7 : decode cX11_loudnessBits 7 = .ok (.invokevirtual 89, 3) := by decide +kernel
theorem dX11_loudnessBits_10 : decode cX11_loudnessBits 10 = .ok (.aload_n 0, 1) := by decide +kernel
theorem dX11_loudnessBits_11 : decode cX11_loudnessBits 11 = .ok (.getfield 12, 3) := by decide +kernel
theorem dX11_loudnessBits_14 : decode cX11_loudnessBits 14 = .ok (.getfield 54, 3) := by decide +kernel
theorem dX11_loudnessBits_17 : decode cX11_loudnessBits 17 = .ok (.iload_n 1, 1) := by decide +kernel
theorem dX11_loudnessBits_18 : decode cX11_loudnessBits 18 = .ok (.iload_n 2, 1) := by decide +kernel
theorem dX11_loudnessBits_19 : decode cX11_loudnessBits 19 = .ok (.invokevirtual 100, 3) := by decide +kernel
theorem dX11_loudnessBits_22 : decode cX11_loudnessBits 22 = .ok (.invokestatic 110, 3) := by decide +kernel
theorem dX11_loudnessBits_25 : decode cX11_loudnessBits 25 = .ok (.invokestatic 114, 3) := by decide +kernel
theorem dX11_loudnessBits_28 : decode cX11_loudnessBits 28 = .ok (.ireturn, 1) := by decide +kernel
theorem dX11_addHare_0 : decode cX11_addHare 0 = .ok (.aload_n 0, 1) := by decide +kernel
theorem dX11_addHare_1 : decode cX11_addHare 1 = .ok (.getfield 25, 3) := by decide +kernel
theorem dX11_addHare_4 : decode cX11_addHare 4 = .ok (.aload_n 0, 1) := by decide +kernel
theorem dX11_addHare_5 : decode cX11_addHare 5 = .ok (.getfield 12, 3) := by decide +kernel
theorem dX11_addHare_8 : decode cX11_addHare 8 = .ok (.invokevirtual 50, 3) := by decide +kernel
theorem dX11_addHare_11 : decode cX11_addHare 11 = .ok (.aload_n 0, 1) := by decide +kernel
theorem dX11_addHare_12 : decode cX11_addHare 12 = .ok (.getfield 12, 3) := by decide +kernel
theorem dX11_addHare_15 : decode cX11_addHare 15 = .ok (.iload_n 1, 1) := by decide +kernel
theorem dX11_addHare_16 : decode cX11_addHare 16 = .ok (.invokevirtual 118, 3) := by decide +kernel
theorem dX11_addHare_19 : decode cX11_addHare 19 = .ok (.invokestatic 64, 3) := by decide +kernel
theorem dX11_addHare_22 : decode cX11_addHare 22 = .ok (.aload_n 0, 1) := by decide +kernel
theorem dX11_addHare_23 : decode cX11_addHare 23 = .ok (.getfield 25, 3) := by decide +kernel
theorem dX11_addHare_26 : decode cX11_addHare 26 = .ok (.invokevirtual 68, 3) := by decide +kernel
theorem dX11_addHare_29 : decode cX11_addHare 29 = .ok (.aload_n 0, 1) := by decide +kernel
theorem dX11_addHare_30 : decode cX11_addHare 30 = .ok (.getfield 12, 3) := by decide +kernel
theorem dX11_addHare_33 : decode cX11_addHare 33 = .ok (.getfield 122, 3) := by decide +kernel
theorem dX11_addHare_36 : decode cX11_addHare 36 = .ok (.iconst 1, 1) := by decide +kernel
theorem dX11_addHare_37 : decode cX11_addHare 37 = .ok (.isub, 1) := by decide +kernel
theorem dX11_addHare_38 : decode cX11_addHare 38 = .ok (.ireturn, 1) := by decide +kernel
theorem dX11_move_0 : decode cX11_move 0 = .ok (.aload_n 0, 1) := by decide +kernel
theorem dX11_move_1 : decode cX11_move 1 = .ok (.getfield 25, 3) := by decide +kernel
theorem dX11_move_4 : decode cX11_move 4 = .ok (.aload_n 0, 1) := by decide +kernel
theorem dX11_move_5 : decode cX11_move 5 = .ok (.getfield 12, 3) := by decide +kernel
theorem dX11_move_8 : decode cX11_move 8 = .ok (.invokevirtual 50, 3) := by decide +kernel
theorem dX11_move_11 : decode cX11_move 11 = .ok (.aload_n 0, 1) := by decide +kernel
theorem dX11_move_12 : decode cX11_move 12 = .ok (.getfield 12, 3) := by decide +kernel
theorem dX11_move_15 : decode cX11_move 15 = .ok (.iload_n 1, 1) := by decide +kernel
theorem dX11_move_16 : decode cX11_move 16 = .ok (.invokevirtual 125, 3) := by decide +kernel
theorem dX11_move_19 : decode cX11_move 19 = .ok (.istore_n 3, 1) := by decide +kernel
theorem dX11_move_20 : decode cX11_move 20 = .ok (.aload_n 0, 1) := by decide +kernel
theorem dX11_move_21 : decode cX11_move 21 = .ok (.getfield 12, 3) := by decide +kernel
theorem dX11_move_24 : decode cX11_move 24 = .ok (.iload_n 1, 1) := by decide +kernel
theorem dX11_move_25 : decode cX11_move 25 = .ok (.iload_n 2, 1) := by decide +kernel
theorem dX11_move_26 : decode cX11_move 26 = .ok (.invokevirtual 128, 3) := by decide +kernel
theorem dX11_move_29 : decode cX11_move 29 = .ok (.invokestatic 64, 3) := by decide +kernel
theorem dX11_move_32 : decode cX11_move 32 = .ok (.aload_n 0, 1) := by decide +kernel
theorem dX11_move_33 : decode cX11_move 33 = .ok (.getfield 25, 3) := by decide +kernel
theorem dX11_move_36 : decode cX11_move 36 = .ok (.invokevirtual 68, 3) := by decide +kernel
theorem dX11_move_39 : decode cX11_move 39 = .ok (.iload_n 3, 1) := by decide +kernel
theorem dX11_move_40 : decode cX11_move 40 = .ok (.ireturn, 1) := by decide +kernel
theorem dX11_setListening_0 : decode cX11_setListening 0 = .ok (.aload_n 0, 1) := by decide +kernel
theorem dX11_setListening_1 : decode cX11_setListening 1 = .ok (.getfield 25, 3) := by decide +kernel
theorem dX11_setListening_4 : decode cX11_setListening 4 = .ok (.aload_n 0, 1) := by decide +kernel
theorem dX11_setListening_5 : decode cX11_setListening 5 = .ok (.getfield 12, 3) := by decide +kernel
theorem dX11_setListening_8 : decode cX11_setListening 8 = .ok (.invokevirtual 50, 3) := by decide +kernel
theorem dX11_setListening_11 : decode cX11_setListening 11 = .ok (.aload_n 0, 1) := by decide +kernel
theorem dX11_setListening_12 : decode cX11_setListening 12 = .ok (.getfield 12, 3) := by decide +kernel
theorem dX11_setListening_15 : decode cX11_setListening 15 = .ok (.iload_n 1, 1) := by decide +kernel
theorem dX11_setListening_16 : decode cX11_setListening 16 = .ok (.invokevirtual 131, 3) := by decide +kernel
theorem dX11_setListening_19 : decode cX11_setListening 19 = .ok (.istore_n 3, 1) := by decide +kernel
theorem dX11_setListening_20 : decode cX11_setListening 20 = .ok (.aload_n 0, 1) := by decide +kernel
theorem dX11_setListening_21 : decode cX11_setListening 21 = .ok (.getfield 12, 3) := by decide +kernel
theorem dX11_setListening_24 : decode cX11_setListening 24 = .ok (.iload_n 1, 1) := by decide +kernel
theorem dX11_setListening_25 : decode cX11_setListening 25 = .ok (.iload_n 2, 1) := by decide +kernel
theorem dX11_setListening_26 : decode cX11_setListening 26 = .ok (.invokevirtual 135, 3) := by decide +kernel
theorem dX11_setListening_29 : decode cX11_setListening 29 = .ok (.invokestatic 64, 3) := by decide +kernel
theorem dX11_setListening_32 : decode cX11_setListening 32 = .ok (.aload_n 0, 1) := by decide +kernel
theorem dX11_setListening_33 : decode cX11_setListening 33 = .ok (.getfield 25, 3) := by decide +kernel
theorem dX11_setListening_36 : decode cX11_setListening 36 = .ok (.invokevirtual 68, 3) := by decide +kernel
theorem dX11_setListening_39 : decode cX11_setListening 39 = .ok (.iload_n 3, 1) := by decide +kernel
theorem dX11_setListening_40 : decode cX11_setListening 40 = .ok (.ireturn, 1) := by decide +kernel
theorem dX11_hareCount_0 : decode cX11_hareCount 0 = .ok (.aload_n 0, 1) := by decide +kernel
theorem dX11_hareCount_1 : decode cX11_hareCount 1 = .ok (.getfield 12, 3) := by decide +kernel
theorem dX11_hareCount_4 : decode cX11_hareCount 4 = .ok (.getfield 122, 3) := by decide +kernel
theorem dX11_hareCount_7 : decode cX11_hareCount 7 = .ok (.ireturn, 1) := by decide +kernel
theorem dX11_chamberOf_0 : decode cX11_chamberOf 0 = .ok (.aload_n 0, 1) := by decide +kernel
theorem dX11_chamberOf_1 : decode cX11_chamberOf 1 = .ok (.iload_n 1, 1) := by decide +kernel
theorem dX11_chamberOf_2 : decode cX11_chamberOf 2 = .ok (.invokevirtual 139, 3) := by decide +kernel
theorem dX11_chamberOf_5 : decode cX11_chamberOf 5 = .ok (.aload_n 0, 1) := by decide +kernel
theorem dX11_chamberOf_6 : decode cX11_chamberOf 6 = .ok (.getfield 12, 3) := by decide +kernel
theorem dX11_chamberOf_9 : decode cX11_chamberOf 9 = .ok (.iload_n 1, 1) := by decide +kernel
theorem dX11_chamberOf_10 : decode cX11_chamberOf 10 = .ok (.invokevirtual 125, 3) := by decide +kernel
theorem dX11_chamberOf_13 : decode cX11_chamberOf 13 = .ok (.ireturn, 1) := by decide +kernel
theorem dX11_isListening_0 : decode cX11_isListening 0 = .ok (.aload_n 0, 1) := by decide +kernel
theorem dX11_isListening_1 : decode cX11_isListening 1 = .ok (.iload_n 1, 1) := by decide +kernel
theorem dX11_isListening_2 : decode cX11_isListening 2 = .ok (.invokevirtual 139, 3) := by decide +kernel
theorem dX11_isListening_5 : decode cX11_isListening 5 = .ok (.aload_n 0, 1) := by decide +kernel
theorem dX11_isListening_6 : decode cX11_isListening 6 = .ok (.getfield 12, 3) := by decide +kernel
theorem dX11_isListening_9 : decode cX11_isListening 9 = .ok (.iload_n 1, 1) := by decide +kernel
theorem dX11_isListening_10 : decode cX11_isListening 10 = .ok (.invokevirtual 131, 3) := by decide +kernel
theorem dX11_isListening_13 : decode cX11_isListening 13 = .ok (.ireturn, 1) := by decide +kernel
theorem dX11_isDrumming_0 : decode cX11_isDrumming 0 = .ok (.aload_n 0, 1) := by decide +kernel
theorem dX11_isDrumming_1 : decode cX11_isDrumming 1 = .ok (.iload_n 1, 1) := by decide +kernel
theorem dX11_isDrumming_2 : decode cX11_isDrumming 2 = .ok (.invokevirtual 139, 3) := by decide +kernel
theorem dX11_isDrumming_5 : decode cX11_isDrumming 5 = .ok (.aload_n 0, 1) := by decide +kernel
theorem dX11_isDrumming_6 : decode cX11_isDrumming 6 = .ok (.getfield 12, 3) := by decide +kernel
theorem dX11_isDrumming_9 : decode cX11_isDrumming 9 = .ok (.iload_n 1, 1) := by decide +kernel
theorem dX11_isDrumming_10 : decode cX11_isDrumming 10 = .ok (.invokevirtual 142, 3) := by decide +kernel
theorem dX11_isDrumming_13 : decode cX11_isDrumming 13 = .ok (.ireturn, 1) := by decide +kernel
theorem dX11_received_0 : decode cX11_received 0 = .ok (.aload_n 0, 1) := by decide +kernel
theorem dX11_received_1 : decode cX11_received 1 = .ok (.iload_n 1, 1) := by decide +kernel
theorem dX11_received_2 : decode cX11_received 2 = .ok (.invokevirtual 139, 3) := by decide +kernel
theorem dX11_received_5 : decode cX11_received 5 = .ok (.aload_n 0, 1) := by decide +kernel
theorem dX11_received_6 : decode cX11_received 6 = .ok (.getfield 12, 3) := by decide +kernel
theorem dX11_received_9 : decode cX11_received 9 = .ok (.iload_n 1, 1) := by decide +kernel
theorem dX11_received_10 : decode cX11_received 10 = .ok (.invokevirtual 145, 3) := by decide +kernel
theorem dX11_received_13 : decode cX11_received 13 = .ok (.ireturn, 1) := by decide +kernel
theorem dX11_latestNumber_0 : decode cX11_latestNumber 0 = .ok (.aload_n 0, 1) := by decide +kernel
theorem dX11_latestNumber_1 : decode cX11_latestNumber 1 = .ok (.iload_n 1, 1) := by decide +kernel
theorem dX11_latestNumber_2 : decode cX11_latestNumber 2 = .ok (.invokevirtual 139, 3) := by decide +kernel
theorem dX11_latestNumber_5 : decode cX11_latestNumber 5 = .ok (.aload_n 0, 1) := by decide +kernel
theorem dX11_latestNumber_6 : decode cX11_latestNumber 6 = .ok (.getfield 12, 3) := by decide +kernel
theorem dX11_latestNumber_9 : decode cX11_latestNumber 9 = .ok (.iload_n 1, 1) := by decide +kernel
theorem dX11_latestNumber_10 : decode cX11_latestNumber 10 = .ok (.invokevirtual 148, 3) := by decide +kernel
theorem dX11_latestNumber_13 : decode cX11_latestNumber 13 = .ok (.istore_n 2, 1) := by decide +kernel
theorem dX11_latestNumber_14 : decode cX11_latestNumber 14 = .ok (.iload_n 2, 1) := by decide +kernel
theorem dX11_latestNumber_15 : decode cX11_latestNumber 15 = .ok (.iconst (-1), 1) := by decide +kernel
theorem dX11_latestNumber_16 : decode cX11_latestNumber 16 = .ok (.if_icmp .ne 13, 3) := by decide +kernel
theorem dX11_latestNumber_19 : decode cX11_latestNumber 19 = .ok (.new 93, 3) := by decide +kernel
theorem dX11_latestNumber_22 : decode cX11_latestNumber 22 = .ok (.dup, 1) := by decide +kernel
theorem dX11_latestNumber_23 : decode cX11_latestNumber 23 = .ok (.ldc 151, 2) := by decide +kernel
theorem dX11_latestNumber_25 : decode cX11_latestNumber 25 = .ok (.invokespecial 97, 3) := by decide +kernel
theorem dX11_latestNumber_28 : decode cX11_latestNumber 28 = .ok (.athrow, 1) := by decide +kernel
theorem dX11_latestNumber_29 : decode cX11_latestNumber 29 = .ok (.iload_n 2, 1) := by decide +kernel
theorem dX11_latestNumber_30 : decode cX11_latestNumber 30 = .ok (.ireturn, 1) := by decide +kernel
theorem dX11_hareByReceived_0 : decode cX11_hareByReceived 0 = .ok (.iconst 0, 1) := by decide +kernel
theorem dX11_hareByReceived_1 : decode cX11_hareByReceived 1 = .ok (.istore_n 2, 1) := by decide +kernel
theorem dX11_hareByReceived_2 : decode cX11_hareByReceived 2 = .ok (.iload_n 2, 1) := by decide +kernel
theorem dX11_hareByReceived_3 : decode cX11_hareByReceived 3 = .ok (.aload_n 0, 1) := by decide +kernel
theorem dX11_hareByReceived_4 : decode cX11_hareByReceived 4 = .ok (.getfield 12, 3) := by decide +kernel
theorem dX11_hareByReceived_7 : decode cX11_hareByReceived 7 = .ok (.getfield 122, 3) := by decide +kernel
theorem dX11_hareByReceived_10 : decode cX11_hareByReceived 10 = .ok (.if_icmp .ge 23, 3) := by decide +kernel
theorem dX11_hareByReceived_13 : decode cX11_hareByReceived 13 = .ok (.aload_n 0, 1) := by decide +kernel
theorem dX11_hareByReceived_14 : decode cX11_hareByReceived 14 = .ok (.getfield 12, 3) := by decide +kernel
theorem dX11_hareByReceived_17 : decode cX11_hareByReceived 17 = .ok (.iload_n 2, 1) := by decide +kernel
theorem dX11_hareByReceived_18 : decode cX11_hareByReceived 18 = .ok (.invokevirtual 153, 3) := by decide +kernel
theorem dX11_hareByReceived_21 : decode cX11_hareByReceived 21 = .ok (.iload_n 1, 1) := by decide +kernel
theorem dX11_hareByReceived_22 : decode cX11_hareByReceived 22 = .ok (.if_icmp .ne 5, 3) := by decide +kernel
theorem dX11_hareByReceived_25 : decode cX11_hareByReceived 25 = .ok (.iload_n 2, 1) := by decide +kernel
theorem dX11_hareByReceived_26 : decode cX11_hareByReceived 26 = .ok (.ireturn, 1) := by decide +kernel
theorem dX11_hareByReceived_27 : decode cX11_hareByReceived 27 = .ok (.iinc 2 1, 3) := by decide +kernel
theorem dX11_hareByReceived_30 : decode cX11_hareByReceived 30 = .ok (.goto (-28), 3) := by decide +kernel
theorem dX11_hareByReceived_33 : decode cX11_hareByReceived 33 = .ok (.new 93, 3) := by decide +kernel
theorem dX11_hareByReceived_36 : decode cX11_hareByReceived 36 = .ok (.dup, 1) := by decide +kernel
theorem dX11_hareByReceived_37 : decode cX11_hareByReceived 37 = .ok (.ldc 156, 2) := by decide +kernel
theorem dX11_hareByReceived_39 : decode cX11_hareByReceived 39 = .ok (.invokespecial 97, 3) := by decide +kernel
theorem dX11_hareByReceived_42 : decode cX11_hareByReceived 42 = .ok (.athrow, 1) := by decide +kernel
theorem dX11_say_0 : decode cX11_say 0 = .ok (.aload_n 0, 1) := by decide +kernel
theorem dX11_say_1 : decode cX11_say 1 = .ok (.getfield 25, 3) := by decide +kernel
theorem dX11_say_4 : decode cX11_say 4 = .ok (.aload_n 0, 1) := by decide +kernel
theorem dX11_say_5 : decode cX11_say 5 = .ok (.getfield 12, 3) := by decide +kernel
theorem dX11_say_8 : decode cX11_say 8 = .ok (.invokevirtual 50, 3) := by decide +kernel
theorem dX11_say_11 : decode cX11_say 11 = .ok (.aload_n 0, 1) := by decide +kernel
theorem dX11_say_12 : decode cX11_say 12 = .ok (.getfield 12, 3) := by decide +kernel
theorem dX11_say_15 : decode cX11_say 15 = .ok (.getfield 158, 3) := by decide +kernel
theorem dX11_say_18 : decode cX11_say 18 = .ok (.istore 4, 2) := by decide +kernel
theorem dX11_say_20 : decode cX11_say 20 = .ok (.aload_n 0, 1) := by decide +kernel
theorem dX11_say_21 : decode cX11_say 21 = .ok (.getfield 12, 3) := by decide +kernel
theorem dX11_say_24 : decode cX11_say 24 = .ok (.iload_n 1, 1) := by decide +kernel
theorem dX11_say_25 : decode cX11_say 25 = .ok (.iload_n 2, 1) := by decide +kernel
theorem dX11_say_26 : decode cX11_say 26 = .ok (.iload_n 3, 1) := by decide +kernel
theorem dX11_say_27 : decode cX11_say 27 = .ok (.invokevirtual 161, 3) := by decide +kernel
theorem dX11_say_30 : decode cX11_say 30 = .ok (.invokestatic 64, 3) := by decide +kernel
theorem dX11_say_33 : decode cX11_say 33 = .ok (.aload_n 0, 1) := by decide +kernel
theorem dX11_say_34 : decode cX11_say 34 = .ok (.getfield 25, 3) := by decide +kernel
theorem dX11_say_37 : decode cX11_say 37 = .ok (.invokevirtual 68, 3) := by decide +kernel
theorem dX11_say_40 : decode cX11_say 40 = .ok (.iload 4, 2) := by decide +kernel
theorem dX11_say_42 : decode cX11_say 42 = .ok (.ireturn, 1) := by decide +kernel
theorem dX11_forget_0 : decode cX11_forget 0 = .ok (.aload_n 0, 1) := by decide +kernel
theorem dX11_forget_1 : decode cX11_forget 1 = .ok (.getfield 25, 3) := by decide +kernel
theorem dX11_forget_4 : decode cX11_forget 4 = .ok (.aload_n 0, 1) := by decide +kernel
theorem dX11_forget_5 : decode cX11_forget 5 = .ok (.getfield 12, 3) := by decide +kernel
theorem dX11_forget_8 : decode cX11_forget 8 = .ok (.invokevirtual 50, 3) := by decide +kernel
theorem dX11_forget_11 : decode cX11_forget 11 = .ok (.aload_n 0, 1) := by decide +kernel
theorem dX11_forget_12 : decode cX11_forget 12 = .ok (.getfield 12, 3) := by decide +kernel
theorem dX11_forget_15 : decode cX11_forget 15 = .ok (.iload_n 1, 1) := by decide +kernel
theorem dX11_forget_16 : decode cX11_forget 16 = .ok (.invokevirtual 164, 3) := by decide +kernel
theorem dX11_forget_19 : decode cX11_forget 19 = .ok (.invokestatic 64, 3) := by decide +kernel
theorem dX11_forget_22 : decode cX11_forget 22 = .ok (.aload_n 0, 1) := by decide +kernel
theorem dX11_forget_23 : decode cX11_forget 23 = .ok (.getfield 25, 3) := by decide +kernel
theorem dX11_forget_26 : decode cX11_forget 26 = .ok (.invokevirtual 68, 3) := by decide +kernel
theorem dX11_forget_29 : decode cX11_forget 29 = .ok (.aload_n 0, 1) := by decide +kernel
theorem dX11_forget_30 : decode cX11_forget 30 = .ok (.getfield 12, 3) := by decide +kernel
theorem dX11_forget_33 : decode cX11_forget 33 = .ok (.getfield 167, 3) := by decide +kernel
theorem dX11_forget_36 : decode cX11_forget 36 = .ok (.ireturn, 1) := by decide +kernel
theorem dX11_messageCount_0 : decode cX11_messageCount 0 = .ok (.aload_n 0, 1) := by decide +kernel
theorem dX11_messageCount_1 : decode cX11_messageCount 1 = .ok (.getfield 12, 3) := by decide +kernel
theorem dX11_messageCount_4 : decode cX11_messageCount 4 = .ok (.getfield 167, 3) := by decide +kernel
theorem dX11_messageCount_7 : decode cX11_messageCount 7 = .ok (.ireturn, 1) := by decide +kernel
theorem dX11_message_0 : decode cX11_message 0 = .ok (.iload_n 1, 1) := by decide +kernel
theorem dX11_message_1 : decode cX11_message 1 = .ok (.ifCond .lt 14, 3) := by decide +kernel
theorem dX11_message_4 : decode cX11_message 4 = .ok (.iload_n 1, 1) := by decide +kernel
theorem dX11_message_5 : decode cX11_message 5 = .ok (.aload_n 0, 1) := by decide +kernel
theorem dX11_message_6 : decode cX11_message 6 = .ok (.getfield 12, 3) := by decide +kernel
theorem dX11_message_9 : decode cX11_message 9 = .ok (.getfield 167, 3) := by decide +kernel
theorem dX11_message_12 : decode cX11_message 12 = .ok (.if_icmp .lt 13, 3) := by decide +kernel
theorem dX11_message_15 : decode cX11_message 15 = .ok (.new 170, 3) := by decide +kernel
theorem dX11_message_18 : decode cX11_message 18 = .ok (.dup, 1) := by decide +kernel
theorem dX11_message_19 : decode cX11_message 19 = .ok (.ldc 172, 2) := by decide +kernel
theorem dX11_message_21 : decode cX11_message 21 = .ok (.invokespecial 174, 3) := by decide +kernel
theorem dX11_message_24 : decode cX11_message 24 = .ok (.athrow, 1) := by decide +kernel
theorem dX11_message_25 : decode cX11_message 25 = .ok (.aload_n 0, 1) := by decide +kernel
theorem dX11_message_26 : decode cX11_message 26 = .ok (.getfield 12, 3) := by decide +kernel
theorem dX11_message_29 : decode cX11_message 29 = .ok (.getfield 175, 3) := by decide +kernel
theorem dX11_message_32 : decode cX11_message 32 = .ok (.iload_n 1, 1) := by decide +kernel
theorem dX11_message_33 : decode cX11_message 33 = .ok (.aaload, 1) := by decide +kernel
theorem dX11_message_34 : decode cX11_message 34 = .ok (.getfield 179, 3) := by decide +kernel
theorem dX11_message_37 : decode cX11_message 37 = .ok (.ireturn, 1) := by decide +kernel
theorem dX11_sender_0 : decode cX11_sender 0 = .ok (.aload_n 0, 1) := by decide +kernel
theorem dX11_sender_1 : decode cX11_sender 1 = .ok (.iload_n 1, 1) := by decide +kernel
theorem dX11_sender_2 : decode cX11_sender 2 = .ok (.invokevirtual 184, 3) := by decide +kernel
theorem dX11_sender_5 : decode cX11_sender 5 = .ok (.getfield 188, 3) := by decide +kernel
theorem dX11_sender_8 : decode cX11_sender 8 = .ok (.ireturn, 1) := by decide +kernel
theorem dX11_receiver_0 : decode cX11_receiver 0 = .ok (.aload_n 0, 1) := by decide +kernel
theorem dX11_receiver_1 : decode cX11_receiver 1 = .ok (.iload_n 1, 1) := by decide +kernel
theorem dX11_receiver_2 : decode cX11_receiver 2 = .ok (.invokevirtual 184, 3) := by decide +kernel
theorem dX11_receiver_5 : decode cX11_receiver 5 = .ok (.getfield 191, 3) := by decide +kernel
theorem dX11_receiver_8 : decode cX11_receiver 8 = .ok (.ireturn, 1) := by decide +kernel
theorem dX11_state_0 : decode cX11_state 0 = .ok (.aload_n 0, 1) := by decide +kernel
theorem dX11_state_1 : decode cX11_state 1 = .ok (.iload_n 1, 1) := by decide +kernel
theorem dX11_state_2 : decode cX11_state 2 = .ok (.invokevirtual 184, 3) := by decide +kernel
theorem dX11_state_5 : decode cX11_state 5 = .ok (.getfield 194, 3) := by decide +kernel
theorem dX11_state_8 : decode cX11_state 8 = .ok (.ireturn, 1) := by decide +kernel
theorem dX11_timesLost_0 : decode cX11_timesLost 0 = .ok (.aload_n 0, 1) := by decide +kernel
theorem dX11_timesLost_1 : decode cX11_timesLost 1 = .ok (.iload_n 1, 1) := by decide +kernel
theorem dX11_timesLost_2 : decode cX11_timesLost 2 = .ok (.invokevirtual 184, 3) := by decide +kernel
theorem dX11_timesLost_5 : decode cX11_timesLost 5 = .ok (.getfield 198, 3) := by decide +kernel
theorem dX11_timesLost_8 : decode cX11_timesLost 8 = .ok (.ireturn, 1) := by decide +kernel
theorem dX11_beatsDrummed_0 : decode cX11_beatsDrummed 0 = .ok (.aload_n 0, 1) := by decide +kernel
theorem dX11_beatsDrummed_1 : decode cX11_beatsDrummed 1 = .ok (.iload_n 1, 1) := by decide +kernel
theorem dX11_beatsDrummed_2 : decode cX11_beatsDrummed 2 = .ok (.invokevirtual 184, 3) := by decide +kernel
theorem dX11_beatsDrummed_5 : decode cX11_beatsDrummed 5 = .ok (.getfield 201, 3) := by decide +kernel
theorem dX11_beatsDrummed_8 : decode cX11_beatsDrummed 8 = .ok (.ireturn, 1) := by decide +kernel
theorem dX11_isThump_0 : decode cX11_isThump 0 = .ok (.iload_n 1, 1) := by decide +kernel
theorem dX11_isThump_1 : decode cX11_isThump 1 = .ok (.invokestatic 204, 3) := by decide +kernel
theorem dX11_isThump_4 : decode cX11_isThump 4 = .ok (.iload_n 2, 1) := by decide +kernel
theorem dX11_isThump_5 : decode cX11_isThump 5 = .ok (.ifCond .lt 8, 3) := by decide +kernel
theorem dX11_isThump_8 : decode cX11_isThump 8 = .ok (.iload_n 2, 1) := by decide +kernel
theorem dX11_isThump_9 : decode cX11_isThump 9 = .ok (.iconst 5, 1) := by decide +kernel
theorem dX11_isThump_10 : decode cX11_isThump 10 = .ok (.if_icmp .lt 13, 3) := by decide +kernel
theorem dX11_isThump_13 : decode cX11_isThump 13 = .ok (.new 170, 3) := by decide +kernel
theorem dX11_isThump_16 : decode cX11_isThump 16 = .ok (.dup, 1) := by decide +kernel
theorem dX11_isThump_17 : decode cX11_isThump 17 = .ok (.ldc 207, 2) := by decide +kernel
theorem dX11_isThump_19 : decode cX11_isThump 19 = .ok (.invokespecial 174, 3) := by decide +kernel
theorem dX11_isThump_22 : decode cX11_isThump 22 = .ok (.athrow, 1) := by decide +kernel
theorem dX11_isThump_23 : decode cX11_isThump 23 = .ok (.iload_n 1, 1) := by decide +kernel
theorem dX11_isThump_24 : decode cX11_isThump 24 = .ok (.invokestatic 209, 3) := by decide +kernel
theorem dX11_isThump_27 : decode cX11_isThump 27 = .ok (.iload_n 2, 1) := by decide +kernel
theorem dX11_isThump_28 : decode cX11_isThump 28 = .ok (.invokestatic 212, 3) := by decide +kernel
theorem dX11_isThump_31 : decode cX11_isThump 31 = .ok (.ireturn, 1) := by decide +kernel
theorem dX11_decode_0 : decode cX11_decode 0 = .ok (.iload_n 1, 1) := by decide +kernel
theorem dX11_decode_1 : decode cX11_decode 1 = .ok (.ifCond .lt 9, 3) := by decide +kernel
theorem dX11_decode_4 : decode cX11_decode 4 = .ok (.iload_n 1, 1) := by decide +kernel
theorem dX11_decode_5 : decode cX11_decode 5 = .ok (.bipush 31, 2) := by decide +kernel
theorem dX11_decode_7 : decode cX11_decode 7 = .ok (.if_icmp .le 13, 3) := by decide +kernel
theorem dX11_decode_10 : decode cX11_decode 10 = .ok (.new 216, 3) := by decide +kernel
theorem dX11_decode_13 : decode cX11_decode 13 = .ok (.dup, 1) := by decide +kernel
theorem dX11_decode_14 : decode cX11_decode 14 = .ok (.ldc 218, 2) := by decide +kernel
theorem dX11_decode_16 : decode cX11_decode 16 = .ok (.invokespecial 220, 3) := by decide +kernel
theorem dX11_decode_19 : decode cX11_decode 19 = .ok (.athrow, 1) := by decide +kernel
theorem dX11_decode_20 : decode cX11_decode 20 = .ok (.iload_n 1, 1) := by decide +kernel
theorem dX11_decode_21 : decode cX11_decode 21 = .ok (.invokestatic 221, 3) := by decide +kernel
theorem dX11_decode_24 : decode cX11_decode 24 = .ok (.istore_n 2, 1) := by decide +kernel
theorem dX11_decode_25 : decode cX11_decode 25 = .ok (.iload_n 2, 1) := by decide +kernel
theorem dX11_decode_26 : decode cX11_decode 26 = .ok (.iconst (-1), 1) := by decide +kernel
theorem dX11_decode_27 : decode cX11_decode 27 = .ok (.if_icmp .ne 13, 3) := by decide +kernel
theorem dX11_decode_30 : decode cX11_decode 30 = .ok (.new 93, 3) := by decide +kernel
theorem dX11_decode_33 : decode cX11_decode 33 = .ok (.dup, 1) := by decide +kernel
theorem dX11_decode_34 : decode cX11_decode 34 = .ok (.ldc 224, 2) := by decide +kernel
theorem dX11_decode_36 : decode cX11_decode 36 = .ok (.invokespecial 97, 3) := by decide +kernel
theorem dX11_decode_39 : decode cX11_decode 39 = .ok (.athrow, 1) := by decide +kernel
theorem dX11_decode_40 : decode cX11_decode 40 = .ok (.iload_n 2, 1) := by decide +kernel
theorem dX11_decode_41 : decode cX11_decode 41 = .ok (.ireturn, 1) := by decide +kernel
theorem dX11_ticksUntilDelivery_0 : decode cX11_ticksUntilDelivery 0 = .ok (.aload_n 0, 1) := by decide +kernel
theorem dX11_ticksUntilDelivery_1 : decode cX11_ticksUntilDelivery 1 = .ok (.iload_n 1, 1) := by decide +kernel
theorem dX11_ticksUntilDelivery_2 : decode cX11_ticksUntilDelivery 2 = .ok (.invokevirtual 184, 3) := by decide +kernel
theorem dX11_ticksUntilDelivery_5 : decode cX11_ticksUntilDelivery 5 = .ok (.getfield 194, 3) := by decide +kernel
theorem dX11_ticksUntilDelivery_8 : decode cX11_ticksUntilDelivery 8 = .ok (.istore_n 2, 1) := by decide +kernel
theorem dX11_ticksUntilDelivery_9 : decode cX11_ticksUntilDelivery 9 = .ok (.iload_n 2, 1) := by decide +kernel
theorem dX11_ticksUntilDelivery_10 : decode cX11_ticksUntilDelivery 10 = .ok (.bipush 114, 2) := by decide +kernel
theorem dX11_ticksUntilDelivery_12 : decode cX11_ticksUntilDelivery 12 = .ok (.if_icmp .eq 9, 3) := by decide +kernel
theorem dX11_ticksUntilDelivery_15 : decode cX11_ticksUntilDelivery 15 = .ok (.iload_n 2, 1) := by decide +kernel
theorem dX11_ticksUntilDelivery_16 : decode cX11_ticksUntilDelivery 16 = .ok (.bipush 108, 2) := by decide +kernel
theorem dX11_ticksUntilDelivery_18 : decode cX11_ticksUntilDelivery 18 = .ok (.if_icmp .ne 13, 3) := by decide +kernel
theorem dX11_ticksUntilDelivery_21 : decode cX11_ticksUntilDelivery 21 = .ok (.new 226, 3) := by decide +kernel
theorem dX11_ticksUntilDelivery_24 : decode cX11_ticksUntilDelivery 24 = .ok (.dup, 1) := by decide +kernel
theorem dX11_ticksUntilDelivery_25 : decode cX11_ticksUntilDelivery 25 = .ok (.ldc 228, 2) := by decide +kernel
theorem dX11_ticksUntilDelivery_27 : decode cX11_ticksUntilDelivery 27 = .ok (.invokespecial 230, 3) := by decide +kernel
theorem dX11_ticksUntilDelivery_30 : decode cX11_ticksUntilDelivery 30 = .ok (.athrow, 1) := by decide +kernel
theorem dX11_ticksUntilDelivery_31 : decode cX11_ticksUntilDelivery 31 = .ok (.aload_n 0, 1) := by decide +kernel
theorem dX11_ticksUntilDelivery_32 : decode cX11_ticksUntilDelivery 32 = .ok (.getfield 16, 3) := by decide +kernel
theorem dX11_ticksUntilDelivery_35 : decode cX11_ticksUntilDelivery 35 = .ok (.aload_n 0, 1) := by decide +kernel
theorem dX11_ticksUntilDelivery_36 : decode cX11_ticksUntilDelivery 36 = .ok (.getfield 12, 3) := by decide +kernel
theorem dX11_ticksUntilDelivery_39 : decode cX11_ticksUntilDelivery 39 = .ok (.invokevirtual 231, 3) := by decide +kernel
theorem dX11_ticksUntilDelivery_42 : decode cX11_ticksUntilDelivery 42 = .ok (.aload_n 0, 1) := by decide +kernel
theorem dX11_ticksUntilDelivery_43 : decode cX11_ticksUntilDelivery 43 = .ok (.getfield 16, 3) := by decide +kernel
theorem dX11_ticksUntilDelivery_46 : decode cX11_ticksUntilDelivery 46 = .ok (.iload_n 1, 1) := by decide +kernel
theorem dX11_ticksUntilDelivery_47 : decode cX11_ticksUntilDelivery 47 = .ok (.invokevirtual 234, 3) := by decide +kernel
theorem dX11_ticksUntilDelivery_50 : decode cX11_ticksUntilDelivery 50 = .ok (.istore_n 3, 1) := by decide +kernel
theorem dX11_ticksUntilDelivery_51 : decode cX11_ticksUntilDelivery 51 = .ok (.iconst 1, 1) := by decide +kernel
theorem dX11_ticksUntilDelivery_52 : decode cX11_ticksUntilDelivery 52 = .ok (.istore 4, 2) := by decide +kernel
theorem dX11_ticksUntilDelivery_54 : decode cX11_ticksUntilDelivery 54 = .ok (.iload 4, 2) := by decide +kernel
theorem dX11_ticksUntilDelivery_56 : decode cX11_ticksUntilDelivery 56 = .ok (.bipush 60, 2) := by decide +kernel
theorem dX11_ticksUntilDelivery_58 : decode cX11_ticksUntilDelivery 58 = .ok (.if_icmp .gt 30, 3) := by decide +kernel
theorem dX11_ticksUntilDelivery_61 : decode cX11_ticksUntilDelivery 61 = .ok (.aload_n 0, 1) := by decide +kernel
theorem dX11_ticksUntilDelivery_62 : decode cX11_ticksUntilDelivery 62 = .ok (.getfield 16, 3) := by decide +kernel
theorem dX11_ticksUntilDelivery_65 : decode cX11_ticksUntilDelivery 65 = .ok (.invokevirtual 237, 3) := by decide +kernel
theorem dX11_ticksUntilDelivery_68 : decode cX11_ticksUntilDelivery 68 = .ok (.aload_n 0, 1) := by decide +kernel
theorem dX11_ticksUntilDelivery_69 : decode cX11_ticksUntilDelivery 69 = .ok (.getfield 16, 3) := by decide +kernel
theorem dX11_ticksUntilDelivery_72 : decode cX11_ticksUntilDelivery 72 = .ok (.iload_n 3, 1) := by decide +kernel
theorem dX11_ticksUntilDelivery_73 : decode cX11_ticksUntilDelivery 73 = .ok (.invokevirtual 240, 3) := by decide +kernel
theorem dX11_ticksUntilDelivery_76 : decode cX11_ticksUntilDelivery 76 = .ok (.ifCond .eq 6, 3) := by decide +kernel
theorem dX11_ticksUntilDelivery_79 : decode cX11_ticksUntilDelivery 79 = .ok (.iload 4, 2) := by decide +kernel
theorem dX11_ticksUntilDelivery_81 : decode cX11_ticksUntilDelivery 81 = .ok (.ireturn, 1) := by decide +kernel
theorem dX11_ticksUntilDelivery_82 : decode cX11_ticksUntilDelivery 82 = .ok (.iinc 4 1, 3) := by decide +kernel
theorem dX11_ticksUntilDelivery_85 : decode cX11_ticksUntilDelivery 85 = .ok (.goto (-31), 3) := by decide +kernel
theorem dX11_ticksUntilDelivery_88 : decode cX11_ticksUntilDelivery 88 = .ok (.new 243, 3) := by decide +kernel
theorem dX11_ticksUntilDelivery_91 : decode cX11_ticksUntilDelivery 91 = .ok (.dup, 1) := by decide +kernel
theorem dX11_ticksUntilDelivery_92 : decode cX11_ticksUntilDelivery 92 = .ok (.ldc 245, 2) := by decide +kernel
theorem dX11_ticksUntilDelivery_94 : decode cX11_ticksUntilDelivery 94 = .ok (.invokespecial 247, 3) := by decide +kernel
theorem dX11_ticksUntilDelivery_97 : decode cX11_ticksUntilDelivery 97 = .ok (.athrow, 1) := by decide +kernel
theorem dX11_passTicks_0 : decode cX11_passTicks 0 = .ok (.aload_n 0, 1) := by decide +kernel
theorem dX11_passTicks_1 : decode cX11_passTicks 1 = .ok (.getfield 25, 3) := by decide +kernel
theorem dX11_passTicks_4 : decode cX11_passTicks 4 = .ok (.aload_n 0, 1) := by decide +kernel
theorem dX11_passTicks_5 : decode cX11_passTicks 5 = .ok (.getfield 12, 3) := by decide +kernel
theorem dX11_passTicks_8 : decode cX11_passTicks 8 = .ok (.invokevirtual 50, 3) := by decide +kernel
theorem dX11_passTicks_11 : decode cX11_passTicks 11 = .ok (.aload_n 0, 1) := by decide +kernel
theorem dX11_passTicks_12 : decode cX11_passTicks 12 = .ok (.getfield 12, 3) := by decide +kernel
theorem dX11_passTicks_15 : decode cX11_passTicks 15 = .ok (.getfield 248, 3) := by decide +kernel
theorem dX11_passTicks_18 : decode cX11_passTicks 18 = .ok (.istore_n 2, 1) := by decide +kernel
theorem dX11_passTicks_19 : decode cX11_passTicks 19 = .ok (.aload_n 0, 1) := by decide +kernel
theorem dX11_passTicks_20 : decode cX11_passTicks 20 = .ok (.getfield 12, 3) := by decide +kernel
theorem dX11_passTicks_23 : decode cX11_passTicks 23 = .ok (.iload_n 1, 1) := by decide +kernel
theorem dX11_passTicks_24 : decode cX11_passTicks 24 = .ok (.invokevirtual 251, 3) := by decide +kernel
theorem dX11_passTicks_27 : decode cX11_passTicks 27 = .ok (.invokestatic 64, 3) := by decide +kernel
theorem dX11_passTicks_30 : decode cX11_passTicks 30 = .ok (.aload_n 0, 1) := by decide +kernel
theorem dX11_passTicks_31 : decode cX11_passTicks 31 = .ok (.getfield 25, 3) := by decide +kernel
theorem dX11_passTicks_34 : decode cX11_passTicks 34 = .ok (.invokevirtual 68, 3) := by decide +kernel
theorem dX11_passTicks_37 : decode cX11_passTicks 37 = .ok (.aload_n 0, 1) := by decide +kernel
theorem dX11_passTicks_38 : decode cX11_passTicks 38 = .ok (.getfield 12, 3) := by decide +kernel
theorem dX11_passTicks_41 : decode cX11_passTicks 41 = .ok (.getfield 248, 3) := by decide +kernel
theorem dX11_passTicks_44 : decode cX11_passTicks 44 = .ok (.iload_n 2, 1) := by decide +kernel
theorem dX11_passTicks_45 : decode cX11_passTicks 45 = .ok (.isub, 1) := by decide +kernel
theorem dX11_passTicks_46 : decode cX11_passTicks 46 = .ok (.ireturn, 1) := by decide +kernel
theorem dX11_ticks_0 : decode cX11_ticks 0 = .ok (.aload_n 0, 1) := by decide +kernel
theorem dX11_ticks_1 : decode cX11_ticks 1 = .ok (.getfield 12, 3) := by decide +kernel
theorem dX11_ticks_4 : decode cX11_ticks 4 = .ok (.getfield 254, 3) := by decide +kernel
theorem dX11_ticks_7 : decode cX11_ticks 7 = .ok (.ireturn, 1) := by decide +kernel
theorem dX11_thumpsHeard_0 : decode cX11_thumpsHeard 0 = .ok (.aload_n 0, 1) := by decide +kernel
theorem dX11_thumpsHeard_1 : decode cX11_thumpsHeard 1 = .ok (.iload_n 1, 1) := by decide +kernel
theorem dX11_thumpsHeard_2 : decode cX11_thumpsHeard 2 = .ok (.invokevirtual 89, 3) := by decide +kernel
theorem dX11_thumpsHeard_5 : decode cX11_thumpsHeard 5 = .ok (.iload_n 2, 1) := by decide +kernel
theorem dX11_thumpsHeard_6 : decode cX11_thumpsHeard 6 = .ok (.aload_n 0, 1) := by decide +kernel
theorem dX11_thumpsHeard_7 : decode cX11_thumpsHeard 7 = .ok (.getfield 12, 3) := by decide +kernel
theorem dX11_thumpsHeard_10 : decode cX11_thumpsHeard 10 = .ok (.getfield 254, 3) := by decide +kernel
theorem dX11_thumpsHeard_13 : decode cX11_thumpsHeard 13 = .ok (.bipush 20, 2) := by decide +kernel
theorem dX11_thumpsHeard_15 : decode cX11_thumpsHeard 15 = .ok (.isub, 1) := by decide +kernel
theorem dX11_thumpsHeard_16 : decode cX11_thumpsHeard 16 = .ok (.if_icmp .lt 17, 3) := by decide +kernel
theorem dX11_thumpsHeard_19 : decode cX11_thumpsHeard 19 = .ok (.iload_n 2, 1) := by decide +kernel
theorem dX11_thumpsHeard_20 : decode cX11_thumpsHeard 20 = .ok (.aload_n 0, 1) := by decide +kernel
theorem dX11_thumpsHeard_21 : decode cX11_thumpsHeard 21 = .ok (.getfield 12, 3) := by decide +kernel
theorem dX11_thumpsHeard_24 : decode cX11_thumpsHeard 24 = .ok (.getfield 254, 3) := by decide +kernel
theorem dX11_thumpsHeard_27 : decode cX11_thumpsHeard 27 = .ok (.bipush 80, 2) := by decide +kernel
theorem dX11_thumpsHeard_29 : decode cX11_thumpsHeard 29 = .ok (.iadd, 1) := by decide +kernel
theorem dX11_thumpsHeard_30 : decode cX11_thumpsHeard 30 = .ok (.if_icmp .le 14, 3) := by decide +kernel
theorem dX11_thumpsHeard_33 : decode cX11_thumpsHeard 33 = .ok (.new 216, 3) := by decide +kernel
theorem dX11_thumpsHeard_36 : decode cX11_thumpsHeard 36 = .ok (.dup, 1) := by decide +kernel
theorem dX11_thumpsHeard_37 : decode cX11_thumpsHeard 37 = .ok (.ldc_w 257, 3) := by decide +kernel
theorem dX11_thumpsHeard_40 : decode cX11_thumpsHeard 40 = .ok (.invokespecial 220, 3) := by decide +kernel
theorem dX11_thumpsHeard_43 : decode cX11_thumpsHeard 43 = .ok (.athrow, 1) := by decide +kernel
theorem dX11_thumpsHeard_44 : decode cX11_thumpsHeard 44 = .ok (.aload_n 0, 1) := by decide +kernel
theorem dX11_thumpsHeard_45 : decode cX11_thumpsHeard 45 = .ok (.getfield 12, 3) := by decide +kernel
theorem dX11_thumpsHeard_48 : decode cX11_thumpsHeard 48 = .ok (.getfield 259, 3) := by decide +kernel
theorem dX11_thumpsHeard_51 : decode cX11_thumpsHeard 51 = .ok (.iload_n 1, 1) := by decide +kernel
theorem dX11_thumpsHeard_52 : decode cX11_thumpsHeard 52 = .ok (.iload_n 2, 1) := by decide +kernel
theorem dX11_thumpsHeard_53 : decode cX11_thumpsHeard 53 = .ok (.invokevirtual 263, 3) := by decide +kernel
theorem dX11_thumpsHeard_56 : decode cX11_thumpsHeard 56 = .ok (.ireturn, 1) := by decide +kernel
theorem dX11_thumpsDrummed_0 : decode cX11_thumpsDrummed 0 = .ok (.aload_n 0, 1) := by decide +kernel
theorem dX11_thumpsDrummed_1 : decode cX11_thumpsDrummed 1 = .ok (.getfield 12, 3) := by decide +kernel
theorem dX11_thumpsDrummed_4 : decode cX11_thumpsDrummed 4 = .ok (.getfield 268, 3) := by decide +kernel
theorem dX11_thumpsDrummed_7 : decode cX11_thumpsDrummed 7 = .ok (.ireturn, 1) := by decide +kernel
theorem dX11_deliveries_0 : decode cX11_deliveries 0 = .ok (.aload_n 0, 1) := by decide +kernel
theorem dX11_deliveries_1 : decode cX11_deliveries 1 = .ok (.getfield 12, 3) := by decide +kernel
theorem dX11_deliveries_4 : decode cX11_deliveries 4 = .ok (.getfield 248, 3) := by decide +kernel
theorem dX11_deliveries_7 : decode cX11_deliveries 7 = .ok (.ireturn, 1) := by decide +kernel
theorem dX11_losses_0 : decode cX11_losses 0 = .ok (.aload_n 0, 1) := by decide +kernel
theorem dX11_losses_1 : decode cX11_losses 1 = .ok (.getfield 12, 3) := by decide +kernel
theorem dX11_losses_4 : decode cX11_losses 4 = .ok (.getfield 271, 3) := by decide +kernel
theorem dX11_losses_7 : decode cX11_losses 7 = .ok (.ireturn, 1) := by decide +kernel
theorem dX11_meanLoudness_0 : decode cX11_meanLoudness 0 = .ok (.aload_n 0, 1) := by decide +kernel
theorem dX11_meanLoudness_1 : decode cX11_meanLoudness 1 = .ok (.iload_n 1, 1) := by decide +kernel
theorem dX11_meanLoudness_2 : decode cX11_meanLoudness 2 = .ok (.invokevirtual 89, 3) := by decide +kernel
theorem dX11_meanLoudness_5 : decode cX11_meanLoudness 5 = .ok (.aload_n 0, 1) := by decide +kernel
theorem dX11_meanLoudness_6 : decode cX11_meanLoudness 6 = .ok (.getfield 12, 3) := by decide +kernel
theorem dX11_meanLoudness_9 : decode cX11_meanLoudness 9 = .ok (.getfield 54, 3) := by decide +kernel
theorem dX11_meanLoudness_12 : decode cX11_meanLoudness 12 = .ok (.getfield 71, 3) := by decide +kernel
theorem dX11_meanLoudness_15 : decode cX11_meanLoudness 15 = .ok (.istore_n 2, 1) := by decide +kernel
theorem dX11_meanLoudness_16 : decode cX11_meanLoudness 16 = .ok (.fconst 0, 1) := by decide +kernel
theorem dX11_meanLoudness_17 : decode cX11_meanLoudness 17 = .ok (.fstore_n 3, 1) := by decide +kernel
theorem dX11_meanLoudness_18 : decode cX11_meanLoudness 18 = .ok (.iconst 0, 1) := by decide +kernel
theorem dX11_meanLoudness_19 : decode cX11_meanLoudness 19 = .ok (.istore 4, 2) := by decide +kernel
theorem dX11_meanLoudness_21 : decode cX11_meanLoudness 21 = .ok (.iload 4, 2) := by decide +kernel
theorem dX11_meanLoudness_23 : decode cX11_meanLoudness 23 = .ok (.iload_n 2, 1) := by decide +kernel
theorem dX11_meanLoudness_24 : decode cX11_meanLoudness 24 = .ok (.if_icmp .ge 28, 3) := by decide +kernel
theorem dX11_meanLoudness_27 : decode cX11_meanLoudness 27 = .ok (.fload_n 3, 1) := by decide +kernel
theorem dX11_meanLoudness_28 : decode cX11_meanLoudness 28 = .ok (.aload_n 0, 1) := by decide +kernel
theorem dX11_meanLoudness_29 : decode cX11_meanLoudness 29 = .ok (.getfield 12, 3) := by decide +kernel
theorem dX11_meanLoudness_32 : decode cX11_meanLoudness 32 = .ok (.getfield 54, 3) := by decide +kernel
theorem dX11_meanLoudness_35 : decode cX11_meanLoudness 35 = .ok (.iload 4, 2) := by decide +kernel
theorem dX11_meanLoudness_37 : decode cX11_meanLoudness 37 = .ok (.iload_n 1, 1) := by decide +kernel
theorem dX11_meanLoudness_38 : decode cX11_meanLoudness 38 = .ok (.invokevirtual 100, 3) := by decide +kernel
theorem dX11_meanLoudness_41 : decode cX11_meanLoudness 41 = .ok (.invokestatic 110, 3) := by decide +kernel
theorem dX11_meanLoudness_44 : decode cX11_meanLoudness 44 = .ok (.fadd, 1) := by decide +kernel
theorem dX11_meanLoudness_45 : decode cX11_meanLoudness 45 = .ok (.fstore_n 3, 1) := by decide +kernel
theorem dX11_meanLoudness_46 : decode cX11_meanLoudness 46 = .ok (.iinc 4 1, 3) := by decide +kernel
theorem dX11_meanLoudness_49 : decode cX11_meanLoudness 49 = .ok (.goto (-28), 3) := by decide +kernel
theorem dX11_meanLoudness_52 : decode cX11_meanLoudness 52 = .ok (.fload_n 3, 1) := by decide +kernel
theorem dX11_meanLoudness_53 : decode cX11_meanLoudness 53 = .ok (.iload_n 2, 1) := by decide +kernel
theorem dX11_meanLoudness_54 : decode cX11_meanLoudness 54 = .ok (.i2f, 1) := by decide +kernel
theorem dX11_meanLoudness_55 : decode cX11_meanLoudness 55 = .ok (.fdiv, 1) := by decide +kernel
theorem dX11_meanLoudness_56 : decode cX11_meanLoudness 56 = .ok (.freturn, 1) := by decide +kernel
theorem dX11_deliveryFraction_0 : decode cX11_deliveryFraction 0 = .ok (.aload_n 0, 1) := by decide +kernel
theorem dX11_deliveryFraction_1 : decode cX11_deliveryFraction 1 = .ok (.getfield 12, 3) := by decide +kernel
theorem dX11_deliveryFraction_4 : decode cX11_deliveryFraction 4 = .ok (.getfield 248, 3) := by decide +kernel
theorem dX11_deliveryFraction_7 : decode cX11_deliveryFraction 7 = .ok (.aload_n 0, 1) := by decide +kernel
theorem dX11_deliveryFraction_8 : decode cX11_deliveryFraction 8 = .ok (.getfield 12, 3) := by decide +kernel
theorem dX11_deliveryFraction_11 : decode cX11_deliveryFraction 11 = .ok (.getfield 271, 3) := by decide +kernel
theorem dX11_deliveryFraction_14 : decode cX11_deliveryFraction 14 = .ok (.iadd, 1) := by decide +kernel
theorem dX11_deliveryFraction_15 : decode cX11_deliveryFraction 15 = .ok (.istore_n 1, 1) := by decide +kernel
theorem dX11_deliveryFraction_16 : decode cX11_deliveryFraction 16 = .ok (.iload_n 1, 1) := by decide +kernel
theorem dX11_deliveryFraction_17 : decode cX11_deliveryFraction 17 = .ok (.ifCond .ne 14, 3) := by decide +kernel
theorem dX11_deliveryFraction_20 : decode cX11_deliveryFraction 20 = .ok (.new 274, 3) := by decide +kernel
theorem dX11_deliveryFraction_23 : decode cX11_deliveryFraction 23 = .ok (.dup, 1) := by decide +kernel
theorem dX11_deliveryFraction_24 : decode cX11_deliveryFraction 24 = .ok (.ldc_w 276, 3) := by decide +kernel
theorem dX11_deliveryFraction_27 : decode cX11_deliveryFraction 27 = .ok (.invokespecial 278, 3) := by decide +kernel
theorem dX11_deliveryFraction_30 : decode cX11_deliveryFraction 30 = .ok (.athrow, 1) := by decide +kernel
theorem dX11_deliveryFraction_31 : decode cX11_deliveryFraction 31 = .ok (.aload_n 0, 1) := by decide +kernel
theorem dX11_deliveryFraction_32 : decode cX11_deliveryFraction 32 = .ok (.getfield 12, 3) := by decide +kernel
theorem dX11_deliveryFraction_35 : decode cX11_deliveryFraction 35 = .ok (.getfield 248, 3) := by decide +kernel
theorem dX11_deliveryFraction_38 : decode cX11_deliveryFraction 38 = .ok (.i2d, 1) := by decide +kernel
theorem dX11_deliveryFraction_39 : decode cX11_deliveryFraction 39 = .ok (.iload_n 1, 1) := by decide +kernel
theorem dX11_deliveryFraction_40 : decode cX11_deliveryFraction 40 = .ok (.i2d, 1) := by decide +kernel
theorem dX11_deliveryFraction_41 : decode cX11_deliveryFraction 41 = .ok (.ddiv, 1) := by decide +kernel
theorem dX11_deliveryFraction_42 : decode cX11_deliveryFraction 42 = .ok (.dreturn, 1) := by decide +kernel
theorem dX11_writeMessage_0 : decode cX11_writeMessage 0 = .ok (.aload_n 0, 1) := by decide +kernel
theorem dX11_writeMessage_1 : decode cX11_writeMessage 1 = .ok (.iload_n 1, 1) := by decide +kernel
theorem dX11_writeMessage_2 : decode cX11_writeMessage 2 = .ok (.invokevirtual 184, 3) := by decide +kernel
theorem dX11_writeMessage_5 : decode cX11_writeMessage 5 = .ok (.astore_n 2, 1) := by decide +kernel
theorem dX11_writeMessage_6 : decode cX11_writeMessage 6 = .ok (.aload_n 0, 1) := by decide +kernel
theorem dX11_writeMessage_7 : decode cX11_writeMessage 7 = .ok (.getfield 39, 3) := by decide +kernel
theorem dX11_writeMessage_10 : decode cX11_writeMessage 10 = .ok (.iconst 0, 1) := by decide +kernel
theorem dX11_writeMessage_11 : decode cX11_writeMessage 11 = .ok (.invokevirtual 279, 3) := by decide +kernel
theorem dX11_writeMessage_14 : decode cX11_writeMessage 14 = .ok (.aload_n 0, 1) := by decide +kernel
theorem dX11_writeMessage_15 : decode cX11_writeMessage 15 = .ok (.getfield 39, 3) := by decide +kernel
theorem dX11_writeMessage_18 : decode cX11_writeMessage 18 = .ok (.aload_n 2, 1) := by decide +kernel
theorem dX11_writeMessage_19 : decode cX11_writeMessage 19 = .ok (.getfield 179, 3) := by decide +kernel
theorem dX11_writeMessage_22 : decode cX11_writeMessage 22 = .ok (.invokevirtual 282, 3) := by decide +kernel
theorem dX11_writeMessage_25 : decode cX11_writeMessage 25 = .ok (.bipush 58, 2) := by decide +kernel
theorem dX11_writeMessage_27 : decode cX11_writeMessage 27 = .ok (.invokevirtual 286, 3) := by decide +kernel
theorem dX11_writeMessage_30 : decode cX11_writeMessage 30 = .ok (.aload_n 2, 1) := by decide +kernel
theorem dX11_writeMessage_31 : decode cX11_writeMessage 31 = .ok (.getfield 188, 3) := by decide +kernel
theorem dX11_writeMessage_34 : decode cX11_writeMessage 34 = .ok (.invokevirtual 282, 3) := by decide +kernel
theorem dX11_writeMessage_37 : decode cX11_writeMessage 37 = .ok (.bipush 62, 2) := by decide +kernel
theorem dX11_writeMessage_39 : decode cX11_writeMessage 39 = .ok (.invokevirtual 286, 3) := by decide +kernel
theorem dX11_writeMessage_42 : decode cX11_writeMessage 42 = .ok (.pop, 1) := by decide +kernel
theorem dX11_writeMessage_43 : decode cX11_writeMessage 43 = .ok (.aload_n 0, 1) := by decide +kernel
theorem dX11_writeMessage_44 : decode cX11_writeMessage 44 = .ok (.getfield 39, 3) := by decide +kernel
theorem dX11_writeMessage_47 : decode cX11_writeMessage 47 = .ok (.aload_n 2, 1) := by decide +kernel
theorem dX11_writeMessage_48 : decode cX11_writeMessage 48 = .ok (.getfield 191, 3) := by decide +kernel
theorem dX11_writeMessage_51 : decode cX11_writeMessage 51 = .ok (.invokevirtual 282, 3) := by decide +kernel
theorem dX11_writeMessage_54 : decode cX11_writeMessage 54 = .ok (.bipush 61, 2) := by decide +kernel
theorem dX11_writeMessage_56 : decode cX11_writeMessage 56 = .ok (.invokevirtual 286, 3) := by decide +kernel
theorem dX11_writeMessage_59 : decode cX11_writeMessage 59 = .ok (.aload_n 2, 1) := by decide +kernel
theorem dX11_writeMessage_60 : decode cX11_writeMessage 60 = .ok (.getfield 289, 3) := by decide +kernel
theorem dX11_writeMessage_63 : decode cX11_writeMessage 63 = .ok (.invokevirtual 282, 3) := by decide +kernel
theorem dX11_writeMessage_66 : decode cX11_writeMessage 66 = .ok (.aload_n 2, 1) := by decide +kernel
theorem dX11_writeMessage_67 : decode cX11_writeMessage 67 = .ok (.getfield 194, 3) := by decide +kernel
theorem dX11_writeMessage_70 : decode cX11_writeMessage 70 = .ok (.invokevirtual 286, 3) := by decide +kernel
theorem dX11_writeMessage_73 : decode cX11_writeMessage 73 = .ok (.pop, 1) := by decide +kernel
theorem dX11_writeMessage_74 : decode cX11_writeMessage 74 = .ok (.iconst 0, 1) := by decide +kernel
theorem dX11_writeMessage_75 : decode cX11_writeMessage 75 = .ok (.istore_n 3, 1) := by decide +kernel
theorem dX11_writeMessage_76 : decode cX11_writeMessage 76 = .ok (.iload_n 3, 1) := by decide +kernel
theorem dX11_writeMessage_77 : decode cX11_writeMessage 77 = .ok (.aload_n 2, 1) := by decide +kernel
theorem dX11_writeMessage_78 : decode cX11_writeMessage 78 = .ok (.getfield 198, 3) := by decide +kernel
theorem dX11_writeMessage_81 : decode cX11_writeMessage 81 = .ok (.if_icmp .ge 19, 3) := by decide +kernel
theorem dX11_writeMessage_84 : decode cX11_writeMessage 84 = .ok (.aload_n 0, 1) := by decide +kernel
theorem dX11_writeMessage_85 : decode cX11_writeMessage 85 = .ok (.getfield 39, 3) := by decide +kernel
theorem dX11_writeMessage_88 : decode cX11_writeMessage 88 = .ok (.bipush 33, 2) := by decide +kernel
theorem dX11_writeMessage_90 : decode cX11_writeMessage 90 = .ok (.invokevirtual 286, 3) := by decide +kernel
theorem dX11_writeMessage_93 : decode cX11_writeMessage 93 = .ok (.pop, 1) := by decide +kernel
theorem dX11_writeMessage_94 : decode cX11_writeMessage 94 = .ok (.iinc 3 1, 3) := by decide +kernel
theorem dX11_writeMessage_97 : decode cX11_writeMessage 97 = .ok (.goto (-21), 3) := by decide +kernel
theorem dX11_writeMessage_100 : decode cX11_writeMessage 100 = .ok (.aload_n 0, 1) := by decide +kernel
theorem dX11_writeMessage_101 : decode cX11_writeMessage 101 = .ok (.getfield 39, 3) := by decide +kernel
theorem dX11_writeMessage_104 : decode cX11_writeMessage 104 = .ok (.invokevirtual 292, 3) := by decide +kernel
theorem dX11_writeMessage_107 : decode cX11_writeMessage 107 = .ok (.ireturn, 1) := by decide +kernel
theorem dX11_writeCode_0 : decode cX11_writeCode 0 = .ok (.iload_n 1, 1) := by decide +kernel
theorem dX11_writeCode_1 : decode cX11_writeCode 1 = .ok (.invokestatic 204, 3) := by decide +kernel
theorem dX11_writeCode_4 : decode cX11_writeCode 4 = .ok (.iload_n 1, 1) := by decide +kernel
theorem dX11_writeCode_5 : decode cX11_writeCode 5 = .ok (.invokestatic 209, 3) := by decide +kernel
theorem dX11_writeCode_8 : decode cX11_writeCode 8 = .ok (.istore_n 2, 1) := by decide +kernel
theorem dX11_writeCode_9 : decode cX11_writeCode 9 = .ok (.aload_n 0, 1) := by decide +kernel
theorem dX11_writeCode_10 : decode cX11_writeCode 10 = .ok (.getfield 39, 3) := by decide +kernel
theorem dX11_writeCode_13 : decode cX11_writeCode 13 = .ok (.iconst 0, 1) := by decide +kernel
theorem dX11_writeCode_14 : decode cX11_writeCode 14 = .ok (.invokevirtual 279, 3) := by decide +kernel
theorem dX11_writeCode_17 : decode cX11_writeCode 17 = .ok (.iconst 0, 1) := by decide +kernel
theorem dX11_writeCode_18 : decode cX11_writeCode 18 = .ok (.istore_n 3, 1) := by decide +kernel
theorem dX11_writeCode_19 : decode cX11_writeCode 19 = .ok (.iload_n 3, 1) := by decide +kernel
theorem dX11_writeCode_20 : decode cX11_writeCode 20 = .ok (.iconst 5, 1) := by decide +kernel
theorem dX11_writeCode_21 : decode cX11_writeCode 21 = .ok (.if_icmp .ge 32, 3) := by decide +kernel
theorem dX11_writeCode_24 : decode cX11_writeCode 24 = .ok (.aload_n 0, 1) := by decide +kernel
theorem dX11_writeCode_25 : decode cX11_writeCode 25 = .ok (.getfield 39, 3) := by decide +kernel
theorem dX11_writeCode_28 : decode cX11_writeCode 28 = .ok (.iload_n 2, 1) := by decide +kernel
theorem dX11_writeCode_29 : decode cX11_writeCode 29 = .ok (.iload_n 3, 1) := by decide +kernel
theorem dX11_writeCode_30 : decode cX11_writeCode 30 = .ok (.invokestatic 212, 3) := by decide +kernel
theorem dX11_writeCode_33 : decode cX11_writeCode 33 = .ok (.ifCond .eq 8, 3) := by decide +kernel
theorem dX11_writeCode_36 : decode cX11_writeCode 36 = .ok (.bipush 120, 2) := by decide +kernel
theorem dX11_writeCode_38 : decode cX11_writeCode 38 = .ok (.goto 5, 3) := by decide +kernel
theorem dX11_writeCode_41 : decode cX11_writeCode 41 = .ok (.bipush 46, 2) := by decide +kernel
theorem dX11_writeCode_43 : decode cX11_writeCode 43 = .ok (.invokevirtual 286, 3) := by decide +kernel
theorem dX11_writeCode_46 : decode cX11_writeCode 46 = .ok (.pop, 1) := by decide +kernel
theorem dX11_writeCode_47 : decode cX11_writeCode 47 = .ok (.iinc 3 1, 3) := by decide +kernel
theorem dX11_writeCode_50 : decode cX11_writeCode 50 = .ok (.goto (-31), 3) := by decide +kernel
theorem dX11_writeCode_53 : decode cX11_writeCode 53 = .ok (.aload_n 0, 1) := by decide +kernel
theorem dX11_writeCode_54 : decode cX11_writeCode 54 = .ok (.getfield 39, 3) := by decide +kernel
theorem dX11_writeCode_57 : decode cX11_writeCode 57 = .ok (.invokevirtual 292, 3) := by decide +kernel
theorem dX11_writeCode_60 : decode cX11_writeCode 60 = .ok (.ireturn, 1) := by decide +kernel
theorem dX11_outputCharacter_0 : decode cX11_outputCharacter 0 = .ok (.iload_n 1, 1) := by decide +kernel
theorem dX11_outputCharacter_1 : decode cX11_outputCharacter 1 = .ok (.ifCond .lt 14, 3) := by decide +kernel
theorem dX11_outputCharacter_4 : decode cX11_outputCharacter 4 = .ok (.iload_n 1, 1) := by decide +kernel
theorem dX11_outputCharacter_5 : decode cX11_outputCharacter 5 = .ok (.aload_n 0, 1) := by decide +kernel
theorem dX11_outputCharacter_6 : decode cX11_outputCharacter 6 = .ok (.getfield 39, 3) := by decide +kernel
theorem dX11_outputCharacter_9 : decode cX11_outputCharacter 9 = .ok (.invokevirtual 292, 3) := by decide +kernel
theorem dX11_outputCharacter_12 : decode cX11_outputCharacter 12 = .ok (.if_icmp .lt 14, 3) := by decide +kernel
theorem dX11_outputCharacter_15 : decode cX11_outputCharacter 15 = .ok (.new 170, 3) := by decide +kernel
theorem dX11_outputCharacter_18 : decode cX11_outputCharacter 18 = .ok (.dup, 1) := by decide +kernel
theorem dX11_outputCharacter_19 : decode cX11_outputCharacter 19 = .ok (.ldc_w 296, 3) := by decide +kernel
theorem dX11_outputCharacter_22 : decode cX11_outputCharacter 22 = .ok (.invokespecial 174, 3) := by decide +kernel
theorem dX11_outputCharacter_25 : decode cX11_outputCharacter 25 = .ok (.athrow, 1) := by decide +kernel
theorem dX11_outputCharacter_26 : decode cX11_outputCharacter 26 = .ok (.aload_n 0, 1) := by decide +kernel
theorem dX11_outputCharacter_27 : decode cX11_outputCharacter 27 = .ok (.getfield 39, 3) := by decide +kernel
theorem dX11_outputCharacter_30 : decode cX11_outputCharacter 30 = .ok (.iload_n 1, 1) := by decide +kernel
theorem dX11_outputCharacter_31 : decode cX11_outputCharacter 31 = .ok (.invokevirtual 298, 3) := by decide +kernel
theorem dX11_outputCharacter_34 : decode cX11_outputCharacter 34 = .ok (.ireturn, 1) := by decide +kernel
theorem dX11_isConsistent_0 : decode cX11_isConsistent 0 = .ok (.aload_n 0, 1) := by decide +kernel
theorem dX11_isConsistent_1 : decode cX11_isConsistent 1 = .ok (.getfield 12, 3) := by decide +kernel
theorem dX11_isConsistent_4 : decode cX11_isConsistent 4 = .ok (.getfield 54, 3) := by decide +kernel
theorem dX11_isConsistent_7 : decode cX11_isConsistent 7 = .ok (.invokevirtual 302, 3) := by decide +kernel
theorem dX11_isConsistent_10 : decode cX11_isConsistent 10 = .ok (.ifCond .eq 23, 3) := by decide +kernel
theorem dX11_isConsistent_13 : decode cX11_isConsistent 13 = .ok (.invokestatic 306, 3) := by decide +kernel
theorem dX11_isConsistent_16 : decode cX11_isConsistent 16 = .ok (.ifCond .eq 17, 3) := by decide +kernel
theorem dX11_isConsistent_19 : decode cX11_isConsistent 19 = .ok (.aload_n 0, 1) := by decide +kernel
theorem dX11_isConsistent_20 : decode cX11_isConsistent 20 = .ok (.getfield 12, 3) := by decide +kernel
theorem dX11_isConsistent_23 : decode cX11_isConsistent 23 = .ok (.invokevirtual 309, 3) := by decide +kernel
theorem dX11_isConsistent_26 : decode cX11_isConsistent 26 = .ok (.ifCond .eq 7, 3) := by decide +kernel
theorem dX11_isConsistent_29 : decode cX11_isConsistent 29 = .ok (.iconst 1, 1) := by decide +kernel
theorem dX11_isConsistent_30 : decode cX11_isConsistent 30 = .ok (.goto 4, 3) := by decide +kernel
theorem dX11_isConsistent_33 : decode cX11_isConsistent 33 = .ok (.iconst 0, 1) := by decide +kernel
theorem dX11_isConsistent_34 : decode cX11_isConsistent 34 = .ok (.ireturn, 1) := by decide +kernel
theorem dX11_feed_0 : decode cX11_feed 0 = .ok (.aload_n 0, 1) := by decide +kernel
theorem dX11_feed_1 : decode cX11_feed 1 = .ok (.getfield 32, 3) := by decide +kernel
theorem dX11_feed_4 : decode cX11_feed 4 = .ok (.iload_n 1, 1) := by decide +kernel
theorem dX11_feed_5 : decode cX11_feed 5 = .ok (.invokevirtual 312, 3) := by decide +kernel
theorem dX11_feed_8 : decode cX11_feed 8 = .ok (.ifCond .ne 14, 3) := by decide +kernel
theorem dX11_feed_11 : decode cX11_feed 11 = .ok (.new 226, 3) := by decide +kernel
theorem dX11_feed_14 : decode cX11_feed 14 = .ok (.dup, 1) := by decide +kernel
theorem dX11_feed_15 : decode cX11_feed 15 = .ok (.ldc_w 316, 3) := by decide +kernel
theorem dX11_feed_18 : decode cX11_feed 18 = .ok (.invokespecial 230, 3) := by decide +kernel
theorem dX11_feed_21 : decode cX11_feed 21 = .ok (.athrow, 1) := by decide +kernel
theorem dX11_feed_22 : decode cX11_feed 22 = .ok (.aload_n 0, 1) := by decide +kernel
theorem dX11_feed_23 : decode cX11_feed 23 = .ok (.getfield 32, 3) := by decide +kernel
theorem dX11_feed_26 : decode cX11_feed 26 = .ok (.getfield 318, 3) := by decide +kernel
theorem dX11_feed_29 : decode cX11_feed 29 = .ok (.ireturn, 1) := by decide +kernel
theorem dX11_execute_0 : decode cX11_execute 0 = .ok (.aload_n 0, 1) := by decide +kernel
theorem dX11_execute_1 : decode cX11_execute 1 = .ok (.getfield 32, 3) := by decide +kernel
theorem dX11_execute_4 : decode cX11_execute 4 = .ok (.invokevirtual 320, 3) := by decide +kernel
theorem dX11_execute_7 : decode cX11_execute 7 = .ok (.aload_n 0, 1) := by decide +kernel
theorem dX11_execute_8 : decode cX11_execute 8 = .ok (.getfield 32, 3) := by decide +kernel
theorem dX11_execute_11 : decode cX11_execute 11 = .ok (.iconst 0, 1) := by decide +kernel
theorem dX11_execute_12 : decode cX11_execute 12 = .ok (.putfield 318, 3) := by decide +kernel
theorem dX11_execute_15 : decode cX11_execute 15 = .ok (.aload_n 0, 1) := by decide +kernel
theorem dX11_execute_16 : decode cX11_execute 16 = .ok (.getfield 32, 3) := by decide +kernel
theorem dX11_execute_19 : decode cX11_execute 19 = .ok (.getfield 323, 3) := by decide +kernel
theorem dX11_execute_22 : decode cX11_execute 22 = .ok (.iconst (-1), 1) := by decide +kernel
theorem dX11_execute_23 : decode cX11_execute 23 = .ok (.if_icmp .eq 25, 3) := by decide +kernel
theorem dX11_execute_26 : decode cX11_execute 26 = .ok (.aload_n 0, 1) := by decide +kernel
theorem dX11_execute_27 : decode cX11_execute 27 = .ok (.aload_n 0, 1) := by decide +kernel
theorem dX11_execute_28 : decode cX11_execute 28 = .ok (.getfield 32, 3) := by decide +kernel
theorem dX11_execute_31 : decode cX11_execute 31 = .ok (.getfield 323, 3) := by decide +kernel
theorem dX11_execute_34 : decode cX11_execute 34 = .ok (.putfield 43, 3) := by decide +kernel
theorem dX11_execute_37 : decode cX11_execute 37 = .ok (.new 216, 3) := by decide +kernel
theorem dX11_execute_40 : decode cX11_execute 40 = .ok (.dup, 1) := by decide +kernel
theorem dX11_execute_41 : decode cX11_execute 41 = .ok (.ldc_w 326, 3) := by decide +kernel
theorem dX11_execute_44 : decode cX11_execute 44 = .ok (.invokespecial 220, 3) := by decide +kernel
theorem dX11_execute_47 : decode cX11_execute 47 = .ok (.athrow, 1) := by decide +kernel
theorem dX11_execute_48 : decode cX11_execute 48 = .ok (.aload_n 0, 1) := by decide +kernel
theorem dX11_execute_49 : decode cX11_execute 49 = .ok (.getfield 25, 3) := by decide +kernel
theorem dX11_execute_52 : decode cX11_execute 52 = .ok (.aload_n 0, 1) := by decide +kernel
theorem dX11_execute_53 : decode cX11_execute 53 = .ok (.getfield 12, 3) := by decide +kernel
theorem dX11_execute_56 : decode cX11_execute 56 = .ok (.invokevirtual 50, 3) := by decide +kernel
theorem dX11_execute_59 : decode cX11_execute 59 = .ok (.iconst 0, 1) := by decide +kernel
theorem dX11_execute_60 : decode cX11_execute 60 = .ok (.istore_n 1, 1) := by decide +kernel
theorem dX11_execute_61 : decode cX11_execute 61 = .ok (.iload_n 1, 1) := by decide +kernel
theorem dX11_execute_62 : decode cX11_execute 62 = .ok (.aload_n 0, 1) := by decide +kernel
theorem dX11_execute_63 : decode cX11_execute 63 = .ok (.getfield 32, 3) := by decide +kernel
theorem dX11_execute_66 : decode cX11_execute 66 = .ok (.getfield 328, 3) := by decide +kernel
theorem dX11_execute_69 : decode cX11_execute 69 = .ok (.if_icmp .ge 55, 3) := by decide +kernel
theorem dX11_execute_72 : decode cX11_execute 72 = .ok (.aload_n 0, 1) := by decide +kernel
theorem dX11_execute_73 : decode cX11_execute 73 = .ok (.aload_n 0, 1) := by decide +kernel
theorem dX11_execute_74 : decode cX11_execute 74 = .ok (.getfield 32, 3) := by decide +kernel
theorem dX11_execute_77 : decode cX11_execute 77 = .ok (.getfield 331, 3) := by decide +kernel
theorem dX11_execute_80 : decode cX11_execute 80 = .ok (.iload_n 1, 1) := by decide +kernel
theorem dX11_execute_81 : decode cX11_execute 81 = .ok (.aaload, 1) := by decide +kernel
theorem dX11_execute_82 : decode cX11_execute 82 = .ok (.invokevirtual 335, 3) := by decide +kernel
theorem dX11_execute_85 : decode cX11_execute 85 = .ok (.getstatic 339, 3) := by decide +kernel
theorem dX11_execute_88 : decode cX11_execute 88 = .ok (.if_acmp .eq 30, 3) := by decide +kernel
theorem dX11_execute_91 : decode cX11_execute 91 = .ok (.aload_n 0, 1) := by decide +kernel
theorem dX11_execute_92 : decode cX11_execute 92 = .ok (.getfield 25, 3) := by decide +kernel
theorem dX11_execute_95 : decode cX11_execute 95 = .ok (.aload_n 0, 1) := by decide +kernel
theorem dX11_execute_96 : decode cX11_execute 96 = .ok (.getfield 12, 3) := by decide +kernel
theorem dX11_execute_99 : decode cX11_execute 99 = .ok (.invokevirtual 345, 3) := by decide +kernel
theorem dX11_execute_102 : decode cX11_execute 102 = .ok (.aload_n 0, 1) := by decide +kernel
theorem dX11_execute_103 : decode cX11_execute 103 = .ok (.iload_n 1, 1) := by decide +kernel
theorem dX11_execute_104 : decode cX11_execute 104 = .ok (.putfield 47, 3) := by decide +kernel
theorem dX11_execute_107 : decode cX11_execute 107 = .ok (.new 243, 3) := by decide +kernel
theorem dX11_execute_110 : decode cX11_execute 110 = .ok (.dup, 1) := by decide +kernel
theorem dX11_execute_111 : decode cX11_execute 111 = .ok (.ldc_w 348, 3) := by decide +kernel
theorem dX11_execute_114 : decode cX11_execute 114 = .ok (.invokespecial 247, 3) := by decide +kernel
theorem dX11_execute_117 : decode cX11_execute 117 = .ok (.athrow, 1) := by decide +kernel
theorem dX11_execute_118 : decode cX11_execute 118 = .ok (.iinc 1 1, 3) := by decide +kernel
theorem dX11_execute_121 : decode cX11_execute 121 = .ok (.goto (-60), 3) := by decide +kernel
theorem dX11_execute_124 : decode cX11_execute 124 = .ok (.aload_n 0, 1) := by decide +kernel
theorem dX11_execute_125 : decode cX11_execute 125 = .ok (.getfield 25, 3) := by decide +kernel
theorem dX11_execute_128 : decode cX11_execute 128 = .ok (.invokevirtual 68, 3) := by decide +kernel
theorem dX11_execute_131 : decode cX11_execute 131 = .ok (.aload_n 0, 1) := by decide +kernel
theorem dX11_execute_132 : decode cX11_execute 132 = .ok (.getfield 32, 3) := by decide +kernel
theorem dX11_execute_135 : decode cX11_execute 135 = .ok (.getfield 328, 3) := by decide +kernel
theorem dX11_execute_138 : decode cX11_execute 138 = .ok (.ireturn, 1) := by decide +kernel
theorem dX11_undo_0 : decode cX11_undo 0 = .ok (.aload_n 0, 1) := by decide +kernel
theorem dX11_undo_1 : decode cX11_undo 1 = .ok (.getfield 25, 3) := by decide +kernel
theorem dX11_undo_4 : decode cX11_undo 4 = .ok (.aload_n 0, 1) := by decide +kernel
theorem dX11_undo_5 : decode cX11_undo 5 = .ok (.getfield 12, 3) := by decide +kernel
theorem dX11_undo_8 : decode cX11_undo 8 = .ok (.invokevirtual 354, 3) := by decide +kernel
theorem dX11_undo_11 : decode cX11_undo 11 = .ok (.ifCond .ne 14, 3) := by decide +kernel
theorem dX11_undo_14 : decode cX11_undo 14 = .ok (.new 226, 3) := by decide +kernel
theorem dX11_undo_17 : decode cX11_undo 17 = .ok (.dup, 1) := by decide +kernel
theorem dX11_undo_18 : decode cX11_undo 18 = .ok (.ldc_w 358, 3) := by decide +kernel
theorem dX11_undo_21 : decode cX11_undo 21 = .ok (.invokespecial 230, 3) := by decide +kernel
theorem dX11_undo_24 : decode cX11_undo 24 = .ok (.athrow, 1) := by decide +kernel
theorem dX11_undo_25 : decode cX11_undo 25 = .ok (.aload_n 0, 1) := by decide +kernel
theorem dX11_undo_26 : decode cX11_undo 26 = .ok (.getfield 25, 3) := by decide +kernel
theorem dX11_undo_29 : decode cX11_undo 29 = .ok (.getfield 360, 3) := by decide +kernel
theorem dX11_undo_32 : decode cX11_undo 32 = .ok (.ireturn, 1) := by decide +kernel
theorem dX11_undoCount_0 : decode cX11_undoCount 0 = .ok (.aload_n 0, 1) := by decide +kernel
theorem dX11_undoCount_1 : decode cX11_undoCount 1 = .ok (.getfield 25, 3) := by decide +kernel
theorem dX11_undoCount_4 : decode cX11_undoCount 4 = .ok (.getfield 360, 3) := by decide +kernel
theorem dX11_undoCount_7 : decode cX11_undoCount 7 = .ok (.ireturn, 1) := by decide +kernel
theorem dX11_refuse_0 : decode cX11_refuse 0 = .ok (.getstatic 369, 3) := by decide +kernel
theorem dX11_refuse_3 : decode cX11_refuse 3 = .ok (.aload_n 0, 1) := by decide +kernel
theorem dX11_refuse_4 : decode cX11_refuse 4 = .ok (.invokevirtual 375, 3) := by decide +kernel
theorem dX11_refuse_7 : decode cX11_refuse 7 = .ok (.iaload, 1) := by decide +kernel
theorem dX11_refuse_8 : decode cX11_refuse 8 = .ok (.tableswitch 76 1 4 #[32, 43, 54, 65], 32) := by decide +kernel
theorem dX11_refuse_40 : decode cX11_refuse 40 = .ok (.new 170, 3) := by decide +kernel
theorem dX11_refuse_43 : decode cX11_refuse 43 = .ok (.dup, 1) := by decide +kernel
theorem dX11_refuse_44 : decode cX11_refuse 44 = .ok (.ldc_w 378, 3) := by decide +kernel
theorem dX11_refuse_47 : decode cX11_refuse 47 = .ok (.invokespecial 174, 3) := by decide +kernel
theorem dX11_refuse_50 : decode cX11_refuse 50 = .ok (.athrow, 1) := by decide +kernel
theorem dX11_refuse_51 : decode cX11_refuse 51 = .ok (.new 93, 3) := by decide +kernel
theorem dX11_refuse_54 : decode cX11_refuse 54 = .ok (.dup, 1) := by decide +kernel
theorem dX11_refuse_55 : decode cX11_refuse 55 = .ok (.ldc_w 380, 3) := by decide +kernel
theorem dX11_refuse_58 : decode cX11_refuse 58 = .ok (.invokespecial 97, 3) := by decide +kernel
theorem dX11_refuse_61 : decode cX11_refuse 61 = .ok (.athrow, 1) := by decide +kernel
theorem dX11_refuse_62 : decode cX11_refuse 62 = .ok (.new 216, 3) := by decide +kernel
theorem dX11_refuse_65 : decode cX11_refuse 65 = .ok (.dup, 1) := by decide +kernel
theorem dX11_refuse_66 : decode cX11_refuse 66 = .ok (.ldc_w 382, 3) := by decide +kernel
theorem dX11_refuse_69 : decode cX11_refuse 69 = .ok (.invokespecial 220, 3) := by decide +kernel
theorem dX11_refuse_72 : decode cX11_refuse 72 = .ok (.athrow, 1) := by decide +kernel
theorem dX11_refuse_73 : decode cX11_refuse 73 = .ok (.new 226, 3) := by decide +kernel
theorem dX11_refuse_76 : decode cX11_refuse 76 = .ok (.dup, 1) := by decide +kernel
theorem dX11_refuse_77 : decode cX11_refuse 77 = .ok (.ldc_w 384, 3) := by decide +kernel
theorem dX11_refuse_80 : decode cX11_refuse 80 = .ok (.invokespecial 230, 3) := by decide +kernel
theorem dX11_refuse_83 : decode cX11_refuse 83 = .ok (.athrow, 1) := by decide +kernel
theorem dX11_refuse_84 : decode cX11_refuse 84 = .ok (.return_, 1) := by decide +kernel
theorem dX11_checkChamber_0 : decode cX11_checkChamber 0 = .ok (.aload_n 0, 1) := by decide +kernel
theorem dX11_checkChamber_1 : decode cX11_checkChamber 1 = .ok (.getfield 12, 3) := by decide +kernel
theorem dX11_checkChamber_4 : decode cX11_checkChamber 4 = .ok (.getfield 54, 3) := by decide +kernel
theorem dX11_checkChamber_7 : decode cX11_checkChamber 7 = .ok (.iload_n 1, 1) := by decide +kernel
theorem dX11_checkChamber_8 : decode cX11_checkChamber 8 = .ok (.invokevirtual 386, 3) := by decide +kernel
theorem dX11_checkChamber_11 : decode cX11_checkChamber 11 = .ok (.ifCond .ne 14, 3) := by decide +kernel
theorem dX11_checkChamber_14 : decode cX11_checkChamber 14 = .ok (.new 170, 3) := by decide +kernel
theorem dX11_checkChamber_17 : decode cX11_checkChamber 17 = .ok (.dup, 1) := by decide +kernel
theorem dX11_checkChamber_18 : decode cX11_checkChamber 18 = .ok (.ldc_w 389, 3) := by decide +kernel
theorem dX11_checkChamber_21 : decode cX11_checkChamber 21 = .ok (.invokespecial 174, 3) := by decide +kernel
theorem dX11_checkChamber_24 : decode cX11_checkChamber 24 = .ok (.athrow, 1) := by decide +kernel
theorem dX11_checkChamber_25 : decode cX11_checkChamber 25 = .ok (.return_, 1) := by decide +kernel
theorem dX11_checkHare_0 : decode cX11_checkHare 0 = .ok (.aload_n 0, 1) := by decide +kernel
theorem dX11_checkHare_1 : decode cX11_checkHare 1 = .ok (.getfield 12, 3) := by decide +kernel
theorem dX11_checkHare_4 : decode cX11_checkHare 4 = .ok (.iload_n 1, 1) := by decide +kernel
theorem dX11_checkHare_5 : decode cX11_checkHare 5 = .ok (.invokevirtual 391, 3) := by decide +kernel
theorem dX11_checkHare_8 : decode cX11_checkHare 8 = .ok (.ifCond .ne 14, 3) := by decide +kernel
theorem dX11_checkHare_11 : decode cX11_checkHare 11 = .ok (.new 170, 3) := by decide +kernel
theorem dX11_checkHare_14 : decode cX11_checkHare 14 = .ok (.dup, 1) := by decide +kernel
theorem dX11_checkHare_15 : decode cX11_checkHare 15 = .ok (.ldc_w 394, 3) := by decide +kernel
theorem dX11_checkHare_18 : decode cX11_checkHare 18 = .ok (.invokespecial 174, 3) := by decide +kernel
theorem dX11_checkHare_21 : decode cX11_checkHare 21 = .ok (.athrow, 1) := by decide +kernel
theorem dX11_checkHare_22 : decode cX11_checkHare 22 = .ok (.return_, 1) := by decide +kernel
theorem dX11_checkNumber_0 : decode cX11_checkNumber 0 = .ok (.iload_n 0, 1) := by decide +kernel
theorem dX11_checkNumber_1 : decode cX11_checkNumber 1 = .ok (.invokestatic 396, 3) := by decide +kernel
theorem dX11_checkNumber_4 : decode cX11_checkNumber 4 = .ok (.ifCond .ne 14, 3) := by decide +kernel
theorem dX11_checkNumber_7 : decode cX11_checkNumber 7 = .ok (.new 216, 3) := by decide +kernel
theorem dX11_checkNumber_10 : decode cX11_checkNumber 10 = .ok (.dup, 1) := by decide +kernel
theorem dX11_checkNumber_11 : decode cX11_checkNumber 11 = .ok (.ldc_w 399, 3) := by decide +kernel
theorem dX11_checkNumber_14 : decode cX11_checkNumber 14 = .ok (.invokespecial 220, 3) := by decide +kernel
theorem dX11_checkNumber_17 : decode cX11_checkNumber 17 = .ok (.athrow, 1) := by decide +kernel
theorem dX11_checkNumber_18 : decode cX11_checkNumber 18 = .ok (.return_, 1) := by decide +kernel
theorem dX11_checkedWay_0 : decode cX11_checkedWay 0 = .ok (.iload_n 0, 1) := by decide +kernel
theorem dX11_checkedWay_1 : decode cX11_checkedWay 1 = .ok (.sipush 1000, 3) := by decide +kernel
theorem dX11_checkedWay_4 : decode cX11_checkedWay 4 = .ok (.if_icmp .ne 14, 3) := by decide +kernel
theorem dX11_checkedWay_7 : decode cX11_checkedWay 7 = .ok (.new 93, 3) := by decide +kernel
theorem dX11_checkedWay_10 : decode cX11_checkedWay 10 = .ok (.dup, 1) := by decide +kernel
theorem dX11_checkedWay_11 : decode cX11_checkedWay 11 = .ok (.ldc_w 401, 3) := by decide +kernel
theorem dX11_checkedWay_14 : decode cX11_checkedWay 14 = .ok (.invokespecial 97, 3) := by decide +kernel
theorem dX11_checkedWay_17 : decode cX11_checkedWay 17 = .ok (.athrow, 1) := by decide +kernel
theorem dX11_checkedWay_18 : decode cX11_checkedWay 18 = .ok (.iload_n 0, 1) := by decide +kernel
theorem dX11_checkedWay_19 : decode cX11_checkedWay 19 = .ok (.ireturn, 1) := by decide +kernel
theorem dX11_existing_0 : decode cX11_existing 0 = .ok (.aload_n 0, 1) := by decide +kernel
theorem dX11_existing_1 : decode cX11_existing 1 = .ok (.getfield 12, 3) := by decide +kernel
theorem dX11_existing_4 : decode cX11_existing 4 = .ok (.iload_n 1, 1) := by decide +kernel
theorem dX11_existing_5 : decode cX11_existing 5 = .ok (.invokevirtual 234, 3) := by decide +kernel
theorem dX11_existing_8 : decode cX11_existing 8 = .ok (.istore_n 2, 1) := by decide +kernel
theorem dX11_existing_9 : decode cX11_existing 9 = .ok (.iload_n 2, 1) := by decide +kernel
theorem dX11_existing_10 : decode cX11_existing 10 = .ok (.iconst (-1), 1) := by decide +kernel
theorem dX11_existing_11 : decode cX11_existing 11 = .ok (.if_icmp .ne 14, 3) := by decide +kernel
theorem dX11_existing_14 : decode cX11_existing 14 = .ok (.new 93, 3) := by decide +kernel
theorem dX11_existing_17 : decode cX11_existing 17 = .ok (.dup, 1) := by decide +kernel
theorem dX11_existing_18 : decode cX11_existing 18 = .ok (.ldc_w 403, 3) := by decide +kernel
theorem dX11_existing_21 : decode cX11_existing 21 = .ok (.invokespecial 97, 3) := by decide +kernel
theorem dX11_existing_24 : decode cX11_existing 24 = .ok (.athrow, 1) := by decide +kernel
theorem dX11_existing_25 : decode cX11_existing 25 = .ok (.aload_n 0, 1) := by decide +kernel
theorem dX11_existing_26 : decode cX11_existing 26 = .ok (.getfield 12, 3) := by decide +kernel
theorem dX11_existing_29 : decode cX11_existing 29 = .ok (.getfield 175, 3) := by decide +kernel
theorem dX11_existing_32 : decode cX11_existing 32 = .ok (.iload_n 2, 1) := by decide +kernel
theorem dX11_existing_33 : decode cX11_existing 33 = .ok (.aaload, 1) := by decide +kernel
theorem dX11_existing_34 : decode cX11_existing 34 = .ok (.areturn, 1) := by decide +kernel
theorem dX11_isNumber_0 : decode cX11_isNumber 0 = .ok (.iload_n 0, 1) := by decide +kernel
theorem dX11_isNumber_1 : decode cX11_isNumber 1 = .ok (.ifCond .lt 13, 3) := by decide +kernel
theorem dX11_isNumber_4 : decode cX11_isNumber 4 = .ok (.iload_n 0, 1) := by decide +kernel
theorem dX11_isNumber_5 : decode cX11_isNumber 5 = .ok (.bipush 15, 2) := by decide +kernel
theorem dX11_isNumber_7 : decode cX11_isNumber 7 = .ok (.if_icmp .gt 7, 3) := by decide +kernel
theorem dX11_isNumber_10 : decode cX11_isNumber 10 = .ok (.iconst 1, 1) := by decide +kernel
theorem dX11_isNumber_11 : decode cX11_isNumber 11 = .ok (.goto 4, 3) := by decide +kernel
theorem dX11_isNumber_14 : decode cX11_isNumber 14 = .ok (.iconst 0, 1) := by decide +kernel
theorem dX11_isNumber_15 : decode cX11_isNumber 15 = .ok (.ireturn, 1) := by decide +kernel
theorem dX11_codeOf_0 : decode cX11_codeOf 0 = .ok (.iload_n 0, 1) := by decide +kernel
theorem dX11_codeOf_1 : decode cX11_codeOf 1 = .ok (.iconst 1, 1) := by decide +kernel
theorem dX11_codeOf_2 : decode cX11_codeOf 2 = .ok (.ishl, 1) := by decide +kernel
theorem dX11_codeOf_3 : decode cX11_codeOf 3 = .ok (.iload_n 0, 1) := by decide +kernel
theorem dX11_codeOf_4 : decode cX11_codeOf 4 = .ok (.invokestatic 405, 3) := by decide +kernel
theorem dX11_codeOf_7 : decode cX11_codeOf 7 = .ok (.iconst 1, 1) := by decide +kernel
theorem dX11_codeOf_8 : decode cX11_codeOf 8 = .ok (.iand, 1) := by decide +kernel
theorem dX11_codeOf_9 : decode cX11_codeOf 9 = .ok (.ior, 1) := by decide +kernel
theorem dX11_codeOf_10 : decode cX11_codeOf 10 = .ok (.ireturn, 1) := by decide +kernel
theorem dX11_numberOf_0 : decode cX11_numberOf 0 = .ok (.iload_n 0, 1) := by decide +kernel
theorem dX11_numberOf_1 : decode cX11_numberOf 1 = .ok (.invokestatic 405, 3) := by decide +kernel
theorem dX11_numberOf_4 : decode cX11_numberOf 4 = .ok (.iconst 1, 1) := by decide +kernel
theorem dX11_numberOf_5 : decode cX11_numberOf 5 = .ok (.iand, 1) := by decide +kernel
theorem dX11_numberOf_6 : decode cX11_numberOf 6 = .ok (.ifCond .ne 9, 3) := by decide +kernel
theorem dX11_numberOf_9 : decode cX11_numberOf 9 = .ok (.iload_n 0, 1) := by decide +kernel
theorem dX11_numberOf_10 : decode cX11_numberOf 10 = .ok (.iconst 1, 1) := by decide +kernel
theorem dX11_numberOf_11 : decode cX11_numberOf 11 = .ok (.ishr, 1) := by decide +kernel
theorem dX11_numberOf_12 : decode cX11_numberOf 12 = .ok (.goto 4, 3) := by decide +kernel
theorem dX11_numberOf_15 : decode cX11_numberOf 15 = .ok (.iconst (-1), 1) := by decide +kernel
theorem dX11_numberOf_16 : decode cX11_numberOf 16 = .ok (.ireturn, 1) := by decide +kernel
theorem dX11_isOne_0 : decode cX11_isOne 0 = .ok (.iload_n 0, 1) := by decide +kernel
theorem dX11_isOne_1 : decode cX11_isOne 1 = .ok (.iconst 4, 1) := by decide +kernel
theorem dX11_isOne_2 : decode cX11_isOne 2 = .ok (.iload_n 1, 1) := by decide +kernel
theorem dX11_isOne_3 : decode cX11_isOne 3 = .ok (.isub, 1) := by decide +kernel
theorem dX11_isOne_4 : decode cX11_isOne 4 = .ok (.ishr, 1) := by decide +kernel
theorem dX11_isOne_5 : decode cX11_isOne 5 = .ok (.iconst 1, 1) := by decide +kernel
theorem dX11_isOne_6 : decode cX11_isOne 6 = .ok (.iand, 1) := by decide +kernel
theorem dX11_isOne_7 : decode cX11_isOne 7 = .ok (.iconst 1, 1) := by decide +kernel
theorem dX11_isOne_8 : decode cX11_isOne 8 = .ok (.if_icmp .ne 7, 3) := by decide +kernel
theorem dX11_isOne_11 : decode cX11_isOne 11 = .ok (.iconst 1, 1) := by decide +kernel
theorem dX11_isOne_12 : decode cX11_isOne 12 = .ok (.goto 4, 3) := by decide +kernel
theorem dX11_isOne_15 : decode cX11_isOne 15 = .ok (.iconst 0, 1) := by decide +kernel
theorem dX11_isOne_16 : decode cX11_isOne 16 = .ok (.ireturn, 1) := by decide +kernel
theorem dX11_codesDecode_0 : decode cX11_codesDecode 0 = .ok (.iconst 0, 1) := by decide +kernel
theorem dX11_codesDecode_1 : decode cX11_codesDecode 1 = .ok (.istore_n 0, 1) := by decide +kernel
theorem dX11_codesDecode_2 : decode cX11_codesDecode 2 = .ok (.iload_n 0, 1) := by decide +kernel
theorem dX11_codesDecode_3 : decode cX11_codesDecode 3 = .ok (.bipush 15, 2) := by decide +kernel
theorem dX11_codesDecode_5 : decode cX11_codesDecode 5 = .ok (.if_icmp .gt 22, 3) := by decide +kernel
theorem dX11_codesDecode_8 : decode cX11_codesDecode 8 = .ok (.iload_n 0, 1) := by decide +kernel
theorem dX11_codesDecode_9 : decode cX11_codesDecode 9 = .ok (.invokestatic 209, 3) := by decide +kernel
theorem dX11_codesDecode_12 : decode cX11_codesDecode 12 = .ok (.invokestatic 221, 3) := by decide +kernel
theorem dX11_codesDecode_15 : decode cX11_codesDecode 15 = .ok (.iload_n 0, 1) := by decide +kernel
theorem dX11_codesDecode_16 : decode cX11_codesDecode 16 = .ok (.if_icmp .eq 5, 3) := by decide +kernel
theorem dX11_codesDecode_19 : decode cX11_codesDecode 19 = .ok (.iconst 0, 1) := by decide +kernel
theorem dX11_codesDecode_20 : decode cX11_codesDecode 20 = .ok (.ireturn, 1) := by decide +kernel
theorem dX11_codesDecode_21 : decode cX11_codesDecode 21 = .ok (.iinc 0 1, 3) := by decide +kernel
theorem dX11_codesDecode_24 : decode cX11_codesDecode 24 = .ok (.goto (-22), 3) := by decide +kernel
theorem dX11_codesDecode_27 : decode cX11_codesDecode 27 = .ok (.iconst 1, 1) := by decide +kernel
theorem dX11_codesDecode_28 : decode cX11_codesDecode 28 = .ok (.ireturn, 1) := by decide +kernel
theorem dX11_loudnessAfter_0 : decode cX11_loudnessAfter 0 = .ok (.iload_n 0, 1) := by decide +kernel
theorem dX11_loudnessAfter_1 : decode cX11_loudnessAfter 1 = .ok (.sipush 1000, 3) := by decide +kernel
theorem dX11_loudnessAfter_4 : decode cX11_loudnessAfter 4 = .ok (.if_icmp .ne 7, 3) := by decide +kernel
theorem dX11_loudnessAfter_7 : decode cX11_loudnessAfter 7 = .ok (.fconst 0, 1) := by decide +kernel
theorem dX11_loudnessAfter_8 : decode cX11_loudnessAfter 8 = .ok (.goto 9, 3) := by decide +kernel
theorem dX11_loudnessAfter_11 : decode cX11_loudnessAfter 11 = .ok (.fconst 1, 1) := by decide +kernel
theorem dX11_loudnessAfter_12 : decode cX11_loudnessAfter 12 = .ok (.fconst 1, 1) := by decide +kernel
theorem dX11_loudnessAfter_13 : decode cX11_loudnessAfter 13 = .ok (.iload_n 0, 1) := by decide +kernel
theorem dX11_loudnessAfter_14 : decode cX11_loudnessAfter 14 = .ok (.i2f, 1) := by decide +kernel
theorem dX11_loudnessAfter_15 : decode cX11_loudnessAfter 15 = .ok (.fadd, 1) := by decide +kernel
theorem dX11_loudnessAfter_16 : decode cX11_loudnessAfter 16 = .ok (.fdiv, 1) := by decide +kernel
theorem dX11_loudnessAfter_17 : decode cX11_loudnessAfter 17 = .ok (.freturn, 1) := by decide +kernel
theorem dX11_bitsOf_0 : decode cX11_bitsOf 0 = .ok (.fload_n 0, 1) := by decide +kernel
theorem dX11_bitsOf_1 : decode cX11_bitsOf 1 = .ok (.fconst 0, 1) := by decide +kernel
theorem dX11_bitsOf_2 : decode cX11_bitsOf 2 = .ok (.fcmp .g, 1) := by decide +kernel
theorem dX11_bitsOf_3 : decode cX11_bitsOf 3 = .ok (.ifCond .gt 5, 3) := by decide +kernel
theorem dX11_bitsOf_6 : decode cX11_bitsOf 6 = .ok (.iconst 0, 1) := by decide +kernel
theorem dX11_bitsOf_7 : decode cX11_bitsOf 7 = .ok (.ireturn, 1) := by decide +kernel
theorem dX11_bitsOf_8 : decode cX11_bitsOf 8 = .ok (.fload_n 0, 1) := by decide +kernel
theorem dX11_bitsOf_9 : decode cX11_bitsOf 9 = .ok (.fstore_n 1, 1) := by decide +kernel
theorem dX11_bitsOf_10 : decode cX11_bitsOf 10 = .ok (.bipush 127, 2) := by decide +kernel
theorem dX11_bitsOf_12 : decode cX11_bitsOf 12 = .ok (.istore_n 2, 1) := by decide +kernel
theorem dX11_bitsOf_13 : decode cX11_bitsOf 13 = .ok (.iconst 0, 1) := by decide +kernel
theorem dX11_bitsOf_14 : decode cX11_bitsOf 14 = .ok (.istore_n 3, 1) := by decide +kernel
theorem dX11_bitsOf_15 : decode cX11_bitsOf 15 = .ok (.iload_n 3, 1) := by decide +kernel
theorem dX11_bitsOf_16 : decode cX11_bitsOf 16 = .ok (.bipush 126, 2) := by decide +kernel
theorem dX11_bitsOf_18 : decode cX11_bitsOf 18 = .ok (.if_icmp .ge 22, 3) := by decide +kernel
theorem dX11_bitsOf_21 : decode cX11_bitsOf 21 = .ok (.fload_n 1, 1) := by decide +kernel
theorem dX11_bitsOf_22 : decode cX11_bitsOf 22 = .ok (.fconst 1, 1) := by decide +kernel
theorem dX11_bitsOf_23 : decode cX11_bitsOf 23 = .ok (.fcmp .g, 1) := by decide +kernel
theorem dX11_bitsOf_24 : decode cX11_bitsOf 24 = .ok (.ifCond .ge 16, 3) := by decide +kernel
theorem dX11_bitsOf_27 : decode cX11_bitsOf 27 = .ok (.fload_n 1, 1) := by decide +kernel
theorem dX11_bitsOf_28 : decode cX11_bitsOf 28 = .ok (.fconst 2, 1) := by decide +kernel
theorem dX11_bitsOf_29 : decode cX11_bitsOf 29 = .ok (.fmul, 1) := by decide +kernel
theorem dX11_bitsOf_30 : decode cX11_bitsOf 30 = .ok (.fstore_n 1, 1) := by decide +kernel
theorem dX11_bitsOf_31 : decode cX11_bitsOf 31 = .ok (.iinc 2 (-1), 3) := by decide +kernel
theorem dX11_bitsOf_34 : decode cX11_bitsOf 34 = .ok (.iinc 3 1, 3) := by decide +kernel
theorem dX11_bitsOf_37 : decode cX11_bitsOf 37 = .ok (.goto (-22), 3) := by decide +kernel
theorem dX11_bitsOf_40 : decode cX11_bitsOf 40 = .ok (.iload_n 2, 1) := by decide +kernel
theorem dX11_bitsOf_41 : decode cX11_bitsOf 41 = .ok (.bipush 23, 2) := by decide +kernel
theorem dX11_bitsOf_43 : decode cX11_bitsOf 43 = .ok (.ishl, 1) := by decide +kernel
theorem dX11_bitsOf_44 : decode cX11_bitsOf 44 = .ok (.fload_n 1, 1) := by decide +kernel
theorem dX11_bitsOf_45 : decode cX11_bitsOf 45 = .ok (.fconst 1, 1) := by decide +kernel
theorem dX11_bitsOf_46 : decode cX11_bitsOf 46 = .ok (.fsub, 1) := by decide +kernel
theorem dX11_bitsOf_47 : decode cX11_bitsOf 47 = .ok (.ldc_w 410, 3) := by decide +kernel
theorem dX11_bitsOf_50 : decode cX11_bitsOf 50 = .ok (.fmul, 1) := by decide +kernel
theorem dX11_bitsOf_51 : decode cX11_bitsOf 51 = .ok (.f2i, 1) := by decide +kernel
theorem dX11_bitsOf_52 : decode cX11_bitsOf 52 = .ok (.iadd, 1) := by decide +kernel
theorem dX11_bitsOf_53 : decode cX11_bitsOf 53 = .ok (.ireturn, 1) := by decide +kernel
theorem dX11_perform_0 : decode cX11_perform 0 = .ok (.aload_n 1, 1) := by decide +kernel
theorem dX11_perform_1 : decode cX11_perform 1 = .ok (.getfield 411, 3) := by decide +kernel
theorem dX11_perform_4 : decode cX11_perform 4 = .ok (.iconst 0, 1) := by decide +kernel
theorem dX11_perform_5 : decode cX11_perform 5 = .ok (.iaload, 1) := by decide +kernel
theorem dX11_perform_6 : decode cX11_perform 6 = .ok (.istore_n 2, 1) := by decide +kernel
theorem dX11_perform_7 : decode cX11_perform 7 = .ok (.aload_n 1, 1) := by decide +kernel
theorem dX11_perform_8 : decode cX11_perform 8 = .ok (.getfield 411, 3) := by decide +kernel
theorem dX11_perform_11 : decode cX11_perform 11 = .ok (.iconst 1, 1) := by decide +kernel
theorem dX11_perform_12 : decode cX11_perform 12 = .ok (.iaload, 1) := by decide +kernel
theorem dX11_perform_13 : decode cX11_perform 13 = .ok (.istore_n 3, 1) := by decide +kernel
theorem dX11_perform_14 : decode cX11_perform 14 = .ok (.aload_n 1, 1) := by decide +kernel
theorem dX11_perform_15 : decode cX11_perform 15 = .ok (.getfield 411, 3) := by decide +kernel
theorem dX11_perform_18 : decode cX11_perform 18 = .ok (.iconst 2, 1) := by decide +kernel
theorem dX11_perform_19 : decode cX11_perform 19 = .ok (.iaload, 1) := by decide +kernel
theorem dX11_perform_20 : decode cX11_perform 20 = .ok (.istore 4, 2) := by decide +kernel
theorem dX11_perform_22 : decode cX11_perform 22 = .ok (.getstatic 416, 3) := by decide +kernel
theorem dX11_perform_25 : decode cX11_perform 25 = .ok (.aload_n 1, 1) := by decide +kernel
theorem dX11_perform_26 : decode cX11_perform 26 = .ok (.getfield 419, 3) := by decide +kernel
theorem dX11_perform_29 : decode cX11_perform 29 = .ok (.invokevirtual 423, 3) := by decide +kernel
theorem dX11_perform_32 : decode cX11_perform 32 = .ok (.iaload, 1) := by decide +kernel
theorem dX11_perform_33 : decode cX11_perform 33 = .ok (.tableswitch 133 1 8 #[47, 58, 73, 82, 94, 104, 114, 124], 47) := by decide +kernel
theorem dX11_perform_80 : decode cX11_perform 80 = .ok (.aload_n 0, 1) := by decide +kernel
theorem dX11_perform_81 : decode cX11_perform 81 = .ok (.getfield 12, 3) := by decide +kernel
theorem dX11_perform_84 : decode cX11_perform 84 = .ok (.getfield 54, 3) := by decide +kernel
theorem dX11_perform_87 : decode cX11_perform 87 = .ok (.invokevirtual 58, 3) := by decide +kernel
theorem dX11_perform_90 : decode cX11_perform 90 = .ok (.areturn, 1) := by decide +kernel
theorem dX11_perform_91 : decode cX11_perform 91 = .ok (.aload_n 0, 1) := by decide +kernel
theorem dX11_perform_92 : decode cX11_perform 92 = .ok (.getfield 12, 3) := by decide +kernel
theorem dX11_perform_95 : decode cX11_perform 95 = .ok (.getfield 54, 3) := by decide +kernel
theorem dX11_perform_98 : decode cX11_perform 98 = .ok (.iload_n 2, 1) := by decide +kernel
theorem dX11_perform_99 : decode cX11_perform 99 = .ok (.iload_n 3, 1) := by decide +kernel
theorem dX11_perform_100 : decode cX11_perform 100 = .ok (.iload 4, 2) := by decide +kernel
theorem dX11_perform_102 : decode cX11_perform 102 = .ok (.invokevirtual 74, 3) := by decide +kernel
theorem dX11_perform_105 : decode cX11_perform 105 = .ok (.areturn, 1) := by decide +kernel
theorem dX11_perform_106 : decode cX11_perform 106 = .ok (.aload_n 0, 1) := by decide +kernel
theorem dX11_perform_107 : decode cX11_perform 107 = .ok (.getfield 12, 3) := by decide +kernel
theorem dX11_perform_110 : decode cX11_perform 110 = .ok (.iload_n 2, 1) := by decide +kernel
theorem dX11_perform_111 : decode cX11_perform 111 = .ok (.invokevirtual 118, 3) := by decide +kernel
theorem dX11_perform_114 : decode cX11_perform 114 = .ok (.areturn, 1) := by decide +kernel
theorem dX11_perform_115 : decode cX11_perform 115 = .ok (.aload_n 0, 1) := by decide +kernel
theorem dX11_perform_116 : decode cX11_perform 116 = .ok (.getfield 12, 3) := by decide +kernel
theorem dX11_perform_119 : decode cX11_perform 119 = .ok (.iload_n 2, 1) := by decide +kernel
theorem dX11_perform_120 : decode cX11_perform 120 = .ok (.iload_n 3, 1) := by decide +kernel
theorem dX11_perform_121 : decode cX11_perform 121 = .ok (.iload 4, 2) := by decide +kernel
theorem dX11_perform_123 : decode cX11_perform 123 = .ok (.invokevirtual 161, 3) := by decide +kernel
theorem dX11_perform_126 : decode cX11_perform 126 = .ok (.areturn, 1) := by decide +kernel
theorem dX11_perform_127 : decode cX11_perform 127 = .ok (.aload_n 0, 1) := by decide +kernel
theorem dX11_perform_128 : decode cX11_perform 128 = .ok (.getfield 12, 3) := by decide +kernel
theorem dX11_perform_131 : decode cX11_perform 131 = .ok (.iload_n 2, 1) := by decide +kernel
theorem dX11_perform_132 : decode cX11_perform 132 = .ok (.iconst 1, 1) := by decide +kernel
theorem dX11_perform_133 : decode cX11_perform 133 = .ok (.invokevirtual 135, 3) := by decide +kernel
theorem dX11_perform_136 : decode cX11_perform 136 = .ok (.areturn, 1) := by decide +kernel
theorem dX11_perform_137 : decode cX11_perform 137 = .ok (.aload_n 0, 1) := by decide +kernel
theorem dX11_perform_138 : decode cX11_perform 138 = .ok (.getfield 12, 3) := by decide +kernel
theorem dX11_perform_141 : decode cX11_perform 141 = .ok (.iload_n 2, 1) := by decide +kernel
theorem dX11_perform_142 : decode cX11_perform 142 = .ok (.iconst 0, 1) := by decide +kernel
theorem dX11_perform_143 : decode cX11_perform 143 = .ok (.invokevirtual 135, 3) := by decide +kernel
theorem dX11_perform_146 : decode cX11_perform 146 = .ok (.areturn, 1) := by decide +kernel
theorem dX11_perform_147 : decode cX11_perform 147 = .ok (.aload_n 0, 1) := by decide +kernel
theorem dX11_perform_148 : decode cX11_perform 148 = .ok (.getfield 12, 3) := by decide +kernel
theorem dX11_perform_151 : decode cX11_perform 151 = .ok (.iload_n 2, 1) := by decide +kernel
theorem dX11_perform_152 : decode cX11_perform 152 = .ok (.iload_n 3, 1) := by decide +kernel
theorem dX11_perform_153 : decode cX11_perform 153 = .ok (.invokevirtual 128, 3) := by decide +kernel
theorem dX11_perform_156 : decode cX11_perform 156 = .ok (.areturn, 1) := by decide +kernel
theorem dX11_perform_157 : decode cX11_perform 157 = .ok (.aload_n 0, 1) := by decide +kernel
theorem dX11_perform_158 : decode cX11_perform 158 = .ok (.getfield 12, 3) := by decide +kernel
theorem dX11_perform_161 : decode cX11_perform 161 = .ok (.iload_n 2, 1) := by decide +kernel
theorem dX11_perform_162 : decode cX11_perform 162 = .ok (.invokevirtual 251, 3) := by decide +kernel
theorem dX11_perform_165 : decode cX11_perform 165 = .ok (.areturn, 1) := by decide +kernel
theorem dX11_perform_166 : decode cX11_perform 166 = .ok (.getstatic 426, 3) := by decide +kernel
theorem dX11_perform_169 : decode cX11_perform 169 = .ok (.areturn, 1) := by decide +kernel
