/-! the helpers' instructions -/
theorem dL_addChamber_0 : decode cL_addChamber 0 = .ok (.aload_n 1, 1) := by decide +kernel
theorem dL_addChamber_1 : decode cL_addChamber 1 = .ok (.iconst 0, 1) := by decide +kernel
theorem dL_addChamber_2 : decode cL_addChamber 2 = .ok (.aload_n 0, 1) := by decide +kernel
theorem dL_addChamber_3 : decode cL_addChamber 3 = .ok (.invokevirtual 7, 3) := by decide +kernel
theorem dL_addChamber_6 : decode cL_addChamber 6 = .ok (.i2l, 1) := by decide +kernel
theorem dL_addChamber_7 : decode cL_addChamber 7 = .ok (.lastore, 1) := by decide +kernel
theorem dL_addChamber_8 : decode cL_addChamber 8 = .ok (.goto 6, 3) := by decide +kernel
theorem dL_addChamber_11 : decode cL_addChamber 11 = .ok (.astore_n 2, 1) := by decide +kernel
theorem dL_addChamber_12 : decode cL_addChamber 12 = .ok (.iconst 1, 1) := by decide +kernel
theorem dL_addChamber_13 : decode cL_addChamber 13 = .ok (.ireturn, 1) := by decide +kernel
theorem dL_addChamber_14 : decode cL_addChamber 14 = .ok (.iconst 0, 1) := by decide +kernel
theorem dL_addChamber_15 : decode cL_addChamber 15 = .ok (.ireturn, 1) := by decide +kernel
theorem dL_addTunnel_0 : decode cL_addTunnel 0 = .ok (.aload 4, 2) := by decide +kernel
theorem dL_addTunnel_2 : decode cL_addTunnel 2 = .ok (.iconst 0, 1) := by decide +kernel
theorem dL_addTunnel_3 : decode cL_addTunnel 3 = .ok (.aload_n 0, 1) := by decide +kernel
theorem dL_addTunnel_4 : decode cL_addTunnel 4 = .ok (.iload_n 1, 1) := by decide +kernel
theorem dL_addTunnel_5 : decode cL_addTunnel 5 = .ok (.iload_n 2, 1) := by decide +kernel
theorem dL_addTunnel_6 : decode cL_addTunnel 6 = .ok (.iload_n 3, 1) := by decide +kernel
theorem dL_addTunnel_7 : decode cL_addTunnel 7 = .ok (.invokevirtual 15, 3) := by decide +kernel
theorem dL_addTunnel_10 : decode cL_addTunnel 10 = .ok (.i2l, 1) := by decide +kernel
theorem dL_addTunnel_11 : decode cL_addTunnel 11 = .ok (.lastore, 1) := by decide +kernel
theorem dL_addTunnel_12 : decode cL_addTunnel 12 = .ok (.goto 15, 3) := by decide +kernel
theorem dL_addTunnel_15 : decode cL_addTunnel 15 = .ok (.astore 5, 2) := by decide +kernel
theorem dL_addTunnel_17 : decode cL_addTunnel 17 = .ok (.iconst 1, 1) := by decide +kernel
theorem dL_addTunnel_18 : decode cL_addTunnel 18 = .ok (.ireturn, 1) := by decide +kernel
theorem dL_addTunnel_19 : decode cL_addTunnel 19 = .ok (.astore 5, 2) := by decide +kernel
theorem dL_addTunnel_21 : decode cL_addTunnel 21 = .ok (.iconst 2, 1) := by decide +kernel
theorem dL_addTunnel_22 : decode cL_addTunnel 22 = .ok (.ireturn, 1) := by decide +kernel
theorem dL_addTunnel_23 : decode cL_addTunnel 23 = .ok (.astore 5, 2) := by decide +kernel
theorem dL_addTunnel_25 : decode cL_addTunnel 25 = .ok (.iconst 3, 1) := by decide +kernel
theorem dL_addTunnel_26 : decode cL_addTunnel 26 = .ok (.ireturn, 1) := by decide +kernel
theorem dL_addTunnel_27 : decode cL_addTunnel 27 = .ok (.iconst 0, 1) := by decide +kernel
theorem dL_addTunnel_28 : decode cL_addTunnel 28 = .ok (.ireturn, 1) := by decide +kernel
theorem dL_removeTunnel_0 : decode cL_removeTunnel 0 = .ok (.aload_n 3, 1) := by decide +kernel
theorem dL_removeTunnel_1 : decode cL_removeTunnel 1 = .ok (.iconst 0, 1) := by decide +kernel
theorem dL_removeTunnel_2 : decode cL_removeTunnel 2 = .ok (.aload_n 0, 1) := by decide +kernel
theorem dL_removeTunnel_3 : decode cL_removeTunnel 3 = .ok (.iload_n 1, 1) := by decide +kernel
theorem dL_removeTunnel_4 : decode cL_removeTunnel 4 = .ok (.iload_n 2, 1) := by decide +kernel
theorem dL_removeTunnel_5 : decode cL_removeTunnel 5 = .ok (.invokevirtual 23, 3) := by decide +kernel
theorem dL_removeTunnel_8 : decode cL_removeTunnel 8 = .ok (.i2l, 1) := by decide +kernel
theorem dL_removeTunnel_9 : decode cL_removeTunnel 9 = .ok (.lastore, 1) := by decide +kernel
theorem dL_removeTunnel_10 : decode cL_removeTunnel 10 = .ok (.goto 11, 3) := by decide +kernel
theorem dL_removeTunnel_13 : decode cL_removeTunnel 13 = .ok (.astore 4, 2) := by decide +kernel
theorem dL_removeTunnel_15 : decode cL_removeTunnel 15 = .ok (.iconst 1, 1) := by decide +kernel
theorem dL_removeTunnel_16 : decode cL_removeTunnel 16 = .ok (.ireturn, 1) := by decide +kernel
theorem dL_removeTunnel_17 : decode cL_removeTunnel 17 = .ok (.astore 4, 2) := by decide +kernel
theorem dL_removeTunnel_19 : decode cL_removeTunnel 19 = .ok (.iconst 2, 1) := by decide +kernel
theorem dL_removeTunnel_20 : decode cL_removeTunnel 20 = .ok (.ireturn, 1) := by decide +kernel
theorem dL_removeTunnel_21 : decode cL_removeTunnel 21 = .ok (.iconst 0, 1) := by decide +kernel
theorem dL_removeTunnel_22 : decode cL_removeTunnel 22 = .ok (.ireturn, 1) := by decide +kernel
theorem dL_tunnelDelay_0 : decode cL_tunnelDelay 0 = .ok (.aload_n 3, 1) := by decide +kernel
theorem dL_tunnelDelay_1 : decode cL_tunnelDelay 1 = .ok (.iconst 0, 1) := by decide +kernel
theorem dL_tunnelDelay_2 : decode cL_tunnelDelay 2 = .ok (.aload_n 0, 1) := by decide +kernel
theorem dL_tunnelDelay_3 : decode cL_tunnelDelay 3 = .ok (.iload_n 1, 1) := by decide +kernel
theorem dL_tunnelDelay_4 : decode cL_tunnelDelay 4 = .ok (.iload_n 2, 1) := by decide +kernel
theorem dL_tunnelDelay_5 : decode cL_tunnelDelay 5 = .ok (.invokevirtual 29, 3) := by decide +kernel
theorem dL_tunnelDelay_8 : decode cL_tunnelDelay 8 = .ok (.i2l, 1) := by decide +kernel
theorem dL_tunnelDelay_9 : decode cL_tunnelDelay 9 = .ok (.lastore, 1) := by decide +kernel
theorem dL_tunnelDelay_10 : decode cL_tunnelDelay 10 = .ok (.goto 11, 3) := by decide +kernel
theorem dL_tunnelDelay_13 : decode cL_tunnelDelay 13 = .ok (.astore 4, 2) := by decide +kernel
theorem dL_tunnelDelay_15 : decode cL_tunnelDelay 15 = .ok (.iconst 1, 1) := by decide +kernel
theorem dL_tunnelDelay_16 : decode cL_tunnelDelay 16 = .ok (.ireturn, 1) := by decide +kernel
theorem dL_tunnelDelay_17 : decode cL_tunnelDelay 17 = .ok (.astore 4, 2) := by decide +kernel
theorem dL_tunnelDelay_19 : decode cL_tunnelDelay 19 = .ok (.iconst 2, 1) := by decide +kernel
theorem dL_tunnelDelay_20 : decode cL_tunnelDelay 20 = .ok (.ireturn, 1) := by decide +kernel
theorem dL_tunnelDelay_21 : decode cL_tunnelDelay 21 = .ok (.iconst 0, 1) := by decide +kernel
theorem dL_tunnelDelay_22 : decode cL_tunnelDelay 22 = .ok (.ireturn, 1) := by decide +kernel
theorem dL_shortestDelay_0 : decode cL_shortestDelay 0 = .ok (.aload_n 3, 1) := by decide +kernel
theorem dL_shortestDelay_1 : decode cL_shortestDelay 1 = .ok (.iconst 0, 1) := by decide +kernel
theorem dL_shortestDelay_2 : decode cL_shortestDelay 2 = .ok (.aload_n 0, 1) := by decide +kernel
theorem dL_shortestDelay_3 : decode cL_shortestDelay 3 = .ok (.iload_n 1, 1) := by decide +kernel
theorem dL_shortestDelay_4 : decode cL_shortestDelay 4 = .ok (.iload_n 2, 1) := by decide +kernel
theorem dL_shortestDelay_5 : decode cL_shortestDelay 5 = .ok (.invokevirtual 32, 3) := by decide +kernel
theorem dL_shortestDelay_8 : decode cL_shortestDelay 8 = .ok (.i2l, 1) := by decide +kernel
theorem dL_shortestDelay_9 : decode cL_shortestDelay 9 = .ok (.lastore, 1) := by decide +kernel
theorem dL_shortestDelay_10 : decode cL_shortestDelay 10 = .ok (.goto 11, 3) := by decide +kernel
theorem dL_shortestDelay_13 : decode cL_shortestDelay 13 = .ok (.astore 4, 2) := by decide +kernel
theorem dL_shortestDelay_15 : decode cL_shortestDelay 15 = .ok (.iconst 1, 1) := by decide +kernel
theorem dL_shortestDelay_16 : decode cL_shortestDelay 16 = .ok (.ireturn, 1) := by decide +kernel
theorem dL_shortestDelay_17 : decode cL_shortestDelay 17 = .ok (.astore 4, 2) := by decide +kernel
theorem dL_shortestDelay_19 : decode cL_shortestDelay 19 = .ok (.iconst 2, 1) := by decide +kernel
theorem dL_shortestDelay_20 : decode cL_shortestDelay 20 = .ok (.ireturn, 1) := by decide +kernel
theorem dL_shortestDelay_21 : decode cL_shortestDelay 21 = .ok (.iconst 0, 1) := by decide +kernel
theorem dL_shortestDelay_22 : decode cL_shortestDelay 22 = .ok (.ireturn, 1) := by decide +kernel
theorem dL_shortestDelayBySearch_0 : decode cL_shortestDelayBySearch 0 = .ok (.aload_n 3, 1) := by decide +kernel
theorem dL_shortestDelayBySearch_1 : decode cL_shortestDelayBySearch 1 = .ok (.iconst 0, 1) := by decide +kernel
theorem dL_shortestDelayBySearch_2 : decode cL_shortestDelayBySearch 2 = .ok (.aload_n 0, 1) := by decide +kernel
theorem dL_shortestDelayBySearch_3 : decode cL_shortestDelayBySearch 3 = .ok (.iload_n 1, 1) := by decide +kernel
theorem dL_shortestDelayBySearch_4 : decode cL_shortestDelayBySearch 4 = .ok (.iload_n 2, 1) := by decide +kernel
theorem dL_shortestDelayBySearch_5 : decode cL_shortestDelayBySearch 5 = .ok (.invokevirtual 35, 3) := by decide +kernel
theorem dL_shortestDelayBySearch_8 : decode cL_shortestDelayBySearch 8 = .ok (.i2l, 1) := by decide +kernel
theorem dL_shortestDelayBySearch_9 : decode cL_shortestDelayBySearch 9 = .ok (.lastore, 1) := by decide +kernel
theorem dL_shortestDelayBySearch_10 : decode cL_shortestDelayBySearch 10 = .ok (.goto 11, 3) := by decide +kernel
theorem dL_shortestDelayBySearch_13 : decode cL_shortestDelayBySearch 13 = .ok (.astore 4, 2) := by decide +kernel
theorem dL_shortestDelayBySearch_15 : decode cL_shortestDelayBySearch 15 = .ok (.iconst 1, 1) := by decide +kernel
theorem dL_shortestDelayBySearch_16 : decode cL_shortestDelayBySearch 16 = .ok (.ireturn, 1) := by decide +kernel
theorem dL_shortestDelayBySearch_17 : decode cL_shortestDelayBySearch 17 = .ok (.astore 4, 2) := by decide +kernel
theorem dL_shortestDelayBySearch_19 : decode cL_shortestDelayBySearch 19 = .ok (.iconst 2, 1) := by decide +kernel
theorem dL_shortestDelayBySearch_20 : decode cL_shortestDelayBySearch 20 = .ok (.ireturn, 1) := by decide +kernel
theorem dL_shortestDelayBySearch_21 : decode cL_shortestDelayBySearch 21 = .ok (.iconst 0, 1) := by decide +kernel
theorem dL_shortestDelayBySearch_22 : decode cL_shortestDelayBySearch 22 = .ok (.ireturn, 1) := by decide +kernel
theorem dL_loudness_0 : decode cL_loudness 0 = .ok (.aload_n 3, 1) := by decide +kernel
theorem dL_loudness_1 : decode cL_loudness 1 = .ok (.iconst 0, 1) := by decide +kernel
theorem dL_loudness_2 : decode cL_loudness 2 = .ok (.aload_n 0, 1) := by decide +kernel
theorem dL_loudness_3 : decode cL_loudness 3 = .ok (.iload_n 1, 1) := by decide +kernel
theorem dL_loudness_4 : decode cL_loudness 4 = .ok (.iload_n 2, 1) := by decide +kernel
theorem dL_loudness_5 : decode cL_loudness 5 = .ok (.invokevirtual 38, 3) := by decide +kernel
theorem dL_loudness_8 : decode cL_loudness 8 = .ok (.f2d, 1) := by decide +kernel
theorem dL_loudness_9 : decode cL_loudness 9 = .ok (.dastore, 1) := by decide +kernel
theorem dL_loudness_10 : decode cL_loudness 10 = .ok (.goto 7, 3) := by decide +kernel
theorem dL_loudness_13 : decode cL_loudness 13 = .ok (.astore 4, 2) := by decide +kernel
theorem dL_loudness_15 : decode cL_loudness 15 = .ok (.iconst 1, 1) := by decide +kernel
theorem dL_loudness_16 : decode cL_loudness 16 = .ok (.ireturn, 1) := by decide +kernel
theorem dL_loudness_17 : decode cL_loudness 17 = .ok (.iconst 0, 1) := by decide +kernel
theorem dL_loudness_18 : decode cL_loudness 18 = .ok (.ireturn, 1) := by decide +kernel
theorem dL_loudnessBits_0 : decode cL_loudnessBits 0 = .ok (.aload_n 3, 1) := by decide +kernel
theorem dL_loudnessBits_1 : decode cL_loudnessBits 1 = .ok (.iconst 0, 1) := by decide +kernel
theorem dL_loudnessBits_2 : decode cL_loudnessBits 2 = .ok (.aload_n 0, 1) := by decide +kernel
theorem dL_loudnessBits_3 : decode cL_loudnessBits 3 = .ok (.iload_n 1, 1) := by decide +kernel
theorem dL_loudnessBits_4 : decode cL_loudnessBits 4 = .ok (.iload_n 2, 1) := by decide +kernel
theorem dL_loudnessBits_5 : decode cL_loudnessBits 5 = .ok (.invokevirtual 42, 3) := by decide +kernel
theorem dL_loudnessBits_8 : decode cL_loudnessBits 8 = .ok (.i2l, 1) := by decide +kernel
theorem dL_loudnessBits_9 : decode cL_loudnessBits 9 = .ok (.lastore, 1) := by decide +kernel
theorem dL_loudnessBits_10 : decode cL_loudnessBits 10 = .ok (.goto 7, 3) := by decide +kernel
theorem dL_loudnessBits_13 : decode cL_loudnessBits 13 = .ok (.astore 4, 2) := by decide +kernel
theorem dL_loudnessBits_15 : decode cL_loudnessBits 15 = .ok (.iconst 1, 1) := by decide +kernel
theorem dL_loudnessBits_16 : decode cL_loudnessBits 16 = .ok (.ireturn, 1) := by decide +kernel
theorem dL_loudnessBits_17 : decode cL_loudnessBits 17 = .ok (.iconst 0, 1) := by decide +kernel
theorem dL_loudnessBits_18 : decode cL_loudnessBits 18 = .ok (.ireturn, 1) := by decide +kernel
theorem dL_addHare_0 : decode cL_addHare 0 = .ok (.aload_n 2, 1) := by decide +kernel
theorem dL_addHare_1 : decode cL_addHare 1 = .ok (.iconst 0, 1) := by decide +kernel
theorem dL_addHare_2 : decode cL_addHare 2 = .ok (.aload_n 0, 1) := by decide +kernel
theorem dL_addHare_3 : decode cL_addHare 3 = .ok (.iload_n 1, 1) := by decide +kernel
theorem dL_addHare_4 : decode cL_addHare 4 = .ok (.invokevirtual 45, 3) := by decide +kernel
theorem dL_addHare_7 : decode cL_addHare 7 = .ok (.i2l, 1) := by decide +kernel
theorem dL_addHare_8 : decode cL_addHare 8 = .ok (.lastore, 1) := by decide +kernel
theorem dL_addHare_9 : decode cL_addHare 9 = .ok (.goto 9, 3) := by decide +kernel
theorem dL_addHare_12 : decode cL_addHare 12 = .ok (.astore_n 3, 1) := by decide +kernel
theorem dL_addHare_13 : decode cL_addHare 13 = .ok (.iconst 1, 1) := by decide +kernel
theorem dL_addHare_14 : decode cL_addHare 14 = .ok (.ireturn, 1) := by decide +kernel
theorem dL_addHare_15 : decode cL_addHare 15 = .ok (.astore_n 3, 1) := by decide +kernel
theorem dL_addHare_16 : decode cL_addHare 16 = .ok (.iconst 2, 1) := by decide +kernel
theorem dL_addHare_17 : decode cL_addHare 17 = .ok (.ireturn, 1) := by decide +kernel
theorem dL_addHare_18 : decode cL_addHare 18 = .ok (.iconst 0, 1) := by decide +kernel
theorem dL_addHare_19 : decode cL_addHare 19 = .ok (.ireturn, 1) := by decide +kernel
theorem dL_move_0 : decode cL_move 0 = .ok (.aload_n 3, 1) := by decide +kernel
theorem dL_move_1 : decode cL_move 1 = .ok (.iconst 0, 1) := by decide +kernel
theorem dL_move_2 : decode cL_move 2 = .ok (.aload_n 0, 1) := by decide +kernel
theorem dL_move_3 : decode cL_move 3 = .ok (.iload_n 1, 1) := by decide +kernel
theorem dL_move_4 : decode cL_move 4 = .ok (.iload_n 2, 1) := by decide +kernel
theorem dL_move_5 : decode cL_move 5 = .ok (.invokevirtual 49, 3) := by decide +kernel
theorem dL_move_8 : decode cL_move 8 = .ok (.i2l, 1) := by decide +kernel
theorem dL_move_9 : decode cL_move 9 = .ok (.lastore, 1) := by decide +kernel
theorem dL_move_10 : decode cL_move 10 = .ok (.goto 11, 3) := by decide +kernel
theorem dL_move_13 : decode cL_move 13 = .ok (.astore 4, 2) := by decide +kernel
theorem dL_move_15 : decode cL_move 15 = .ok (.iconst 1, 1) := by decide +kernel
theorem dL_move_16 : decode cL_move 16 = .ok (.ireturn, 1) := by decide +kernel
theorem dL_move_17 : decode cL_move 17 = .ok (.astore 4, 2) := by decide +kernel
theorem dL_move_19 : decode cL_move 19 = .ok (.iconst 2, 1) := by decide +kernel
theorem dL_move_20 : decode cL_move 20 = .ok (.ireturn, 1) := by decide +kernel
theorem dL_move_21 : decode cL_move 21 = .ok (.iconst 0, 1) := by decide +kernel
theorem dL_move_22 : decode cL_move 22 = .ok (.ireturn, 1) := by decide +kernel
theorem dL_setListening_0 : decode cL_setListening 0 = .ok (.aload_n 3, 1) := by decide +kernel
theorem dL_setListening_1 : decode cL_setListening 1 = .ok (.iconst 0, 1) := by decide +kernel
theorem dL_setListening_2 : decode cL_setListening 2 = .ok (.aload_n 0, 1) := by decide +kernel
theorem dL_setListening_3 : decode cL_setListening 3 = .ok (.iload_n 1, 1) := by decide +kernel
theorem dL_setListening_4 : decode cL_setListening 4 = .ok (.iload_n 2, 1) := by decide +kernel
theorem dL_setListening_5 : decode cL_setListening 5 = .ok (.invokevirtual 52, 3) := by decide +kernel
theorem dL_setListening_8 : decode cL_setListening 8 = .ok (.ifCond .eq 7, 3) := by decide +kernel
theorem dL_setListening_11 : decode cL_setListening 11 = .ok (.lconst 1, 1) := by decide +kernel
theorem dL_setListening_12 : decode cL_setListening 12 = .ok (.goto 4, 3) := by decide +kernel
theorem dL_setListening_15 : decode cL_setListening 15 = .ok (.lconst 0, 1) := by decide +kernel
theorem dL_setListening_16 : decode cL_setListening 16 = .ok (.lastore, 1) := by decide +kernel
theorem dL_setListening_17 : decode cL_setListening 17 = .ok (.goto 7, 3) := by decide +kernel
theorem dL_setListening_20 : decode cL_setListening 20 = .ok (.astore 4, 2) := by decide +kernel
theorem dL_setListening_22 : decode cL_setListening 22 = .ok (.iconst 1, 1) := by decide +kernel
theorem dL_setListening_23 : decode cL_setListening 23 = .ok (.ireturn, 1) := by decide +kernel
theorem dL_setListening_24 : decode cL_setListening 24 = .ok (.iconst 0, 1) := by decide +kernel
theorem dL_setListening_25 : decode cL_setListening 25 = .ok (.ireturn, 1) := by decide +kernel
theorem dL_chamberOf_0 : decode cL_chamberOf 0 = .ok (.aload_n 2, 1) := by decide +kernel
theorem dL_chamberOf_1 : decode cL_chamberOf 1 = .ok (.iconst 0, 1) := by decide +kernel
theorem dL_chamberOf_2 : decode cL_chamberOf 2 = .ok (.aload_n 0, 1) := by decide +kernel
theorem dL_chamberOf_3 : decode cL_chamberOf 3 = .ok (.iload_n 1, 1) := by decide +kernel
theorem dL_chamberOf_4 : decode cL_chamberOf 4 = .ok (.invokevirtual 56, 3) := by decide +kernel
theorem dL_chamberOf_7 : decode cL_chamberOf 7 = .ok (.i2l, 1) := by decide +kernel
theorem dL_chamberOf_8 : decode cL_chamberOf 8 = .ok (.lastore, 1) := by decide +kernel
theorem dL_chamberOf_9 : decode cL_chamberOf 9 = .ok (.goto 6, 3) := by decide +kernel
theorem dL_chamberOf_12 : decode cL_chamberOf 12 = .ok (.astore_n 3, 1) := by decide +kernel
theorem dL_chamberOf_13 : decode cL_chamberOf 13 = .ok (.iconst 1, 1) := by decide +kernel
theorem dL_chamberOf_14 : decode cL_chamberOf 14 = .ok (.ireturn, 1) := by decide +kernel
theorem dL_chamberOf_15 : decode cL_chamberOf 15 = .ok (.iconst 0, 1) := by decide +kernel
theorem dL_chamberOf_16 : decode cL_chamberOf 16 = .ok (.ireturn, 1) := by decide +kernel
theorem dL_isListening_0 : decode cL_isListening 0 = .ok (.aload_n 2, 1) := by decide +kernel
theorem dL_isListening_1 : decode cL_isListening 1 = .ok (.iconst 0, 1) := by decide +kernel
theorem dL_isListening_2 : decode cL_isListening 2 = .ok (.aload_n 0, 1) := by decide +kernel
theorem dL_isListening_3 : decode cL_isListening 3 = .ok (.iload_n 1, 1) := by decide +kernel
theorem dL_isListening_4 : decode cL_isListening 4 = .ok (.invokevirtual 59, 3) := by decide +kernel
theorem dL_isListening_7 : decode cL_isListening 7 = .ok (.ifCond .eq 7, 3) := by decide +kernel
theorem dL_isListening_10 : decode cL_isListening 10 = .ok (.lconst 1, 1) := by decide +kernel
theorem dL_isListening_11 : decode cL_isListening 11 = .ok (.goto 4, 3) := by decide +kernel
theorem dL_isListening_14 : decode cL_isListening 14 = .ok (.lconst 0, 1) := by decide +kernel
theorem dL_isListening_15 : decode cL_isListening 15 = .ok (.lastore, 1) := by decide +kernel
theorem dL_isListening_16 : decode cL_isListening 16 = .ok (.goto 6, 3) := by decide +kernel
theorem dL_isListening_19 : decode cL_isListening 19 = .ok (.astore_n 3, 1) := by decide +kernel
theorem dL_isListening_20 : decode cL_isListening 20 = .ok (.iconst 1, 1) := by decide +kernel
theorem dL_isListening_21 : decode cL_isListening 21 = .ok (.ireturn, 1) := by decide +kernel
theorem dL_isListening_22 : decode cL_isListening 22 = .ok (.iconst 0, 1) := by decide +kernel
theorem dL_isListening_23 : decode cL_isListening 23 = .ok (.ireturn, 1) := by decide +kernel
theorem dL_isDrumming_0 : decode cL_isDrumming 0 = .ok (.aload_n 2, 1) := by decide +kernel
theorem dL_isDrumming_1 : decode cL_isDrumming 1 = .ok (.iconst 0, 1) := by decide +kernel
theorem dL_isDrumming_2 : decode cL_isDrumming 2 = .ok (.aload_n 0, 1) := by decide +kernel
theorem dL_isDrumming_3 : decode cL_isDrumming 3 = .ok (.iload_n 1, 1) := by decide +kernel
theorem dL_isDrumming_4 : decode cL_isDrumming 4 = .ok (.invokevirtual 63, 3) := by decide +kernel
theorem dL_isDrumming_7 : decode cL_isDrumming 7 = .ok (.ifCond .eq 7, 3) := by decide +kernel
theorem dL_isDrumming_10 : decode cL_isDrumming 10 = .ok (.lconst 1, 1) := by decide +kernel
theorem dL_isDrumming_11 : decode cL_isDrumming 11 = .ok (.goto 4, 3) := by decide +kernel
theorem dL_isDrumming_14 : decode cL_isDrumming 14 = .ok (.lconst 0, 1) := by decide +kernel
theorem dL_isDrumming_15 : decode cL_isDrumming 15 = .ok (.lastore, 1) := by decide +kernel
theorem dL_isDrumming_16 : decode cL_isDrumming 16 = .ok (.goto 6, 3) := by decide +kernel
theorem dL_isDrumming_19 : decode cL_isDrumming 19 = .ok (.astore_n 3, 1) := by decide +kernel
theorem dL_isDrumming_20 : decode cL_isDrumming 20 = .ok (.iconst 1, 1) := by decide +kernel
theorem dL_isDrumming_21 : decode cL_isDrumming 21 = .ok (.ireturn, 1) := by decide +kernel
theorem dL_isDrumming_22 : decode cL_isDrumming 22 = .ok (.iconst 0, 1) := by decide +kernel
theorem dL_isDrumming_23 : decode cL_isDrumming 23 = .ok (.ireturn, 1) := by decide +kernel
theorem dL_received_0 : decode cL_received 0 = .ok (.aload_n 2, 1) := by decide +kernel
theorem dL_received_1 : decode cL_received 1 = .ok (.iconst 0, 1) := by decide +kernel
theorem dL_received_2 : decode cL_received 2 = .ok (.aload_n 0, 1) := by decide +kernel
theorem dL_received_3 : decode cL_received 3 = .ok (.iload_n 1, 1) := by decide +kernel
theorem dL_received_4 : decode cL_received 4 = .ok (.invokevirtual 66, 3) := by decide +kernel
theorem dL_received_7 : decode cL_received 7 = .ok (.i2l, 1) := by decide +kernel
theorem dL_received_8 : decode cL_received 8 = .ok (.lastore, 1) := by decide +kernel
theorem dL_received_9 : decode cL_received 9 = .ok (.goto 6, 3) := by decide +kernel
theorem dL_received_12 : decode cL_received 12 = .ok (.astore_n 3, 1) := by decide +kernel
theorem dL_received_13 : decode cL_received 13 = .ok (.iconst 1, 1) := by decide +kernel
theorem dL_received_14 : decode cL_received 14 = .ok (.ireturn, 1) := by decide +kernel
theorem dL_received_15 : decode cL_received 15 = .ok (.iconst 0, 1) := by decide +kernel
theorem dL_received_16 : decode cL_received 16 = .ok (.ireturn, 1) := by decide +kernel
theorem dL_latestNumber_0 : decode cL_latestNumber 0 = .ok (.aload_n 2, 1) := by decide +kernel
theorem dL_latestNumber_1 : decode cL_latestNumber 1 = .ok (.iconst 0, 1) := by decide +kernel
theorem dL_latestNumber_2 : decode cL_latestNumber 2 = .ok (.aload_n 0, 1) := by decide +kernel
theorem dL_latestNumber_3 : decode cL_latestNumber 3 = .ok (.iload_n 1, 1) := by decide +kernel
theorem dL_latestNumber_4 : decode cL_latestNumber 4 = .ok (.invokevirtual 69, 3) := by decide +kernel
theorem dL_latestNumber_7 : decode cL_latestNumber 7 = .ok (.i2l, 1) := by decide +kernel
theorem dL_latestNumber_8 : decode cL_latestNumber 8 = .ok (.lastore, 1) := by decide +kernel
theorem dL_latestNumber_9 : decode cL_latestNumber 9 = .ok (.goto 9, 3) := by decide +kernel
theorem dL_latestNumber_12 : decode cL_latestNumber 12 = .ok (.astore_n 3, 1) := by decide +kernel
theorem dL_latestNumber_13 : decode cL_latestNumber 13 = .ok (.iconst 1, 1) := by decide +kernel
theorem dL_latestNumber_14 : decode cL_latestNumber 14 = .ok (.ireturn, 1) := by decide +kernel
theorem dL_latestNumber_15 : decode cL_latestNumber 15 = .ok (.astore_n 3, 1) := by decide +kernel
theorem dL_latestNumber_16 : decode cL_latestNumber 16 = .ok (.iconst 2, 1) := by decide +kernel
theorem dL_latestNumber_17 : decode cL_latestNumber 17 = .ok (.ireturn, 1) := by decide +kernel
theorem dL_latestNumber_18 : decode cL_latestNumber 18 = .ok (.iconst 0, 1) := by decide +kernel
theorem dL_latestNumber_19 : decode cL_latestNumber 19 = .ok (.ireturn, 1) := by decide +kernel
theorem dL_hareByReceived_0 : decode cL_hareByReceived 0 = .ok (.aload_n 2, 1) := by decide +kernel
theorem dL_hareByReceived_1 : decode cL_hareByReceived 1 = .ok (.iconst 0, 1) := by decide +kernel
theorem dL_hareByReceived_2 : decode cL_hareByReceived 2 = .ok (.aload_n 0, 1) := by decide +kernel
theorem dL_hareByReceived_3 : decode cL_hareByReceived 3 = .ok (.iload_n 1, 1) := by decide +kernel
theorem dL_hareByReceived_4 : decode cL_hareByReceived 4 = .ok (.invokevirtual 72, 3) := by decide +kernel
theorem dL_hareByReceived_7 : decode cL_hareByReceived 7 = .ok (.i2l, 1) := by decide +kernel
theorem dL_hareByReceived_8 : decode cL_hareByReceived 8 = .ok (.lastore, 1) := by decide +kernel
theorem dL_hareByReceived_9 : decode cL_hareByReceived 9 = .ok (.goto 6, 3) := by decide +kernel
theorem dL_hareByReceived_12 : decode cL_hareByReceived 12 = .ok (.astore_n 3, 1) := by decide +kernel
theorem dL_hareByReceived_13 : decode cL_hareByReceived 13 = .ok (.iconst 1, 1) := by decide +kernel
theorem dL_hareByReceived_14 : decode cL_hareByReceived 14 = .ok (.ireturn, 1) := by decide +kernel
theorem dL_hareByReceived_15 : decode cL_hareByReceived 15 = .ok (.iconst 0, 1) := by decide +kernel
theorem dL_hareByReceived_16 : decode cL_hareByReceived 16 = .ok (.ireturn, 1) := by decide +kernel
theorem dL_say_0 : decode cL_say 0 = .ok (.aload 4, 2) := by decide +kernel
theorem dL_say_2 : decode cL_say 2 = .ok (.iconst 0, 1) := by decide +kernel
theorem dL_say_3 : decode cL_say 3 = .ok (.aload_n 0, 1) := by decide +kernel
theorem dL_say_4 : decode cL_say 4 = .ok (.iload_n 1, 1) := by decide +kernel
theorem dL_say_5 : decode cL_say 5 = .ok (.iload_n 2, 1) := by decide +kernel
theorem dL_say_6 : decode cL_say 6 = .ok (.iload_n 3, 1) := by decide +kernel
theorem dL_say_7 : decode cL_say 7 = .ok (.invokevirtual 75, 3) := by decide +kernel
theorem dL_say_10 : decode cL_say 10 = .ok (.i2l, 1) := by decide +kernel
theorem dL_say_11 : decode cL_say 11 = .ok (.lastore, 1) := by decide +kernel
theorem dL_say_12 : decode cL_say 12 = .ok (.goto 15, 3) := by decide +kernel
theorem dL_say_15 : decode cL_say 15 = .ok (.astore 5, 2) := by decide +kernel
theorem dL_say_17 : decode cL_say 17 = .ok (.iconst 1, 1) := by decide +kernel
theorem dL_say_18 : decode cL_say 18 = .ok (.ireturn, 1) := by decide +kernel
theorem dL_say_19 : decode cL_say 19 = .ok (.astore 5, 2) := by decide +kernel
theorem dL_say_21 : decode cL_say 21 = .ok (.iconst 2, 1) := by decide +kernel
theorem dL_say_22 : decode cL_say 22 = .ok (.ireturn, 1) := by decide +kernel
theorem dL_say_23 : decode cL_say 23 = .ok (.astore 5, 2) := by decide +kernel
theorem dL_say_25 : decode cL_say 25 = .ok (.iconst 3, 1) := by decide +kernel
theorem dL_say_26 : decode cL_say 26 = .ok (.ireturn, 1) := by decide +kernel
theorem dL_say_27 : decode cL_say 27 = .ok (.iconst 0, 1) := by decide +kernel
theorem dL_say_28 : decode cL_say 28 = .ok (.ireturn, 1) := by decide +kernel
theorem dL_forget_0 : decode cL_forget 0 = .ok (.aload_n 2, 1) := by decide +kernel
theorem dL_forget_1 : decode cL_forget 1 = .ok (.iconst 0, 1) := by decide +kernel
theorem dL_forget_2 : decode cL_forget 2 = .ok (.aload_n 0, 1) := by decide +kernel
theorem dL_forget_3 : decode cL_forget 3 = .ok (.iload_n 1, 1) := by decide +kernel
theorem dL_forget_4 : decode cL_forget 4 = .ok (.invokevirtual 78, 3) := by decide +kernel
theorem dL_forget_7 : decode cL_forget 7 = .ok (.i2l, 1) := by decide +kernel
theorem dL_forget_8 : decode cL_forget 8 = .ok (.lastore, 1) := by decide +kernel
theorem dL_forget_9 : decode cL_forget 9 = .ok (.goto 9, 3) := by decide +kernel
theorem dL_forget_12 : decode cL_forget 12 = .ok (.astore_n 3, 1) := by decide +kernel
theorem dL_forget_13 : decode cL_forget 13 = .ok (.iconst 1, 1) := by decide +kernel
theorem dL_forget_14 : decode cL_forget 14 = .ok (.ireturn, 1) := by decide +kernel
theorem dL_forget_15 : decode cL_forget 15 = .ok (.astore_n 3, 1) := by decide +kernel
theorem dL_forget_16 : decode cL_forget 16 = .ok (.iconst 2, 1) := by decide +kernel
theorem dL_forget_17 : decode cL_forget 17 = .ok (.ireturn, 1) := by decide +kernel
theorem dL_forget_18 : decode cL_forget 18 = .ok (.iconst 0, 1) := by decide +kernel
theorem dL_forget_19 : decode cL_forget 19 = .ok (.ireturn, 1) := by decide +kernel
theorem dL_message_0 : decode cL_message 0 = .ok (.aload_n 2, 1) := by decide +kernel
theorem dL_message_1 : decode cL_message 1 = .ok (.iconst 0, 1) := by decide +kernel
theorem dL_message_2 : decode cL_message 2 = .ok (.aload_n 0, 1) := by decide +kernel
theorem dL_message_3 : decode cL_message 3 = .ok (.iload_n 1, 1) := by decide +kernel
theorem dL_message_4 : decode cL_message 4 = .ok (.invokevirtual 81, 3) := by decide +kernel
theorem dL_message_7 : decode cL_message 7 = .ok (.i2l, 1) := by decide +kernel
theorem dL_message_8 : decode cL_message 8 = .ok (.lastore, 1) := by decide +kernel
theorem dL_message_9 : decode cL_message 9 = .ok (.goto 6, 3) := by decide +kernel
theorem dL_message_12 : decode cL_message 12 = .ok (.astore_n 3, 1) := by decide +kernel
theorem dL_message_13 : decode cL_message 13 = .ok (.iconst 1, 1) := by decide +kernel
theorem dL_message_14 : decode cL_message 14 = .ok (.ireturn, 1) := by decide +kernel
theorem dL_message_15 : decode cL_message 15 = .ok (.iconst 0, 1) := by decide +kernel
theorem dL_message_16 : decode cL_message 16 = .ok (.ireturn, 1) := by decide +kernel
theorem dL_sender_0 : decode cL_sender 0 = .ok (.aload_n 2, 1) := by decide +kernel
theorem dL_sender_1 : decode cL_sender 1 = .ok (.iconst 0, 1) := by decide +kernel
theorem dL_sender_2 : decode cL_sender 2 = .ok (.aload_n 0, 1) := by decide +kernel
theorem dL_sender_3 : decode cL_sender 3 = .ok (.iload_n 1, 1) := by decide +kernel
theorem dL_sender_4 : decode cL_sender 4 = .ok (.invokevirtual 84, 3) := by decide +kernel
theorem dL_sender_7 : decode cL_sender 7 = .ok (.i2l, 1) := by decide +kernel
theorem dL_sender_8 : decode cL_sender 8 = .ok (.lastore, 1) := by decide +kernel
theorem dL_sender_9 : decode cL_sender 9 = .ok (.goto 6, 3) := by decide +kernel
theorem dL_sender_12 : decode cL_sender 12 = .ok (.astore_n 3, 1) := by decide +kernel
theorem dL_sender_13 : decode cL_sender 13 = .ok (.iconst 1, 1) := by decide +kernel
theorem dL_sender_14 : decode cL_sender 14 = .ok (.ireturn, 1) := by decide +kernel
theorem dL_sender_15 : decode cL_sender 15 = .ok (.iconst 0, 1) := by decide +kernel
theorem dL_sender_16 : decode cL_sender 16 = .ok (.ireturn, 1) := by decide +kernel
theorem dL_receiver_0 : decode cL_receiver 0 = .ok (.aload_n 2, 1) := by decide +kernel
theorem dL_receiver_1 : decode cL_receiver 1 = .ok (.iconst 0, 1) := by decide +kernel
theorem dL_receiver_2 : decode cL_receiver 2 = .ok (.aload_n 0, 1) := by decide +kernel
theorem dL_receiver_3 : decode cL_receiver 3 = .ok (.iload_n 1, 1) := by decide +kernel
theorem dL_receiver_4 : decode cL_receiver 4 = .ok (.invokevirtual 87, 3) := by decide +kernel
theorem dL_receiver_7 : decode cL_receiver 7 = .ok (.i2l, 1) := by decide +kernel
theorem dL_receiver_8 : decode cL_receiver 8 = .ok (.lastore, 1) := by decide +kernel
theorem dL_receiver_9 : decode cL_receiver 9 = .ok (.goto 6, 3) := by decide +kernel
theorem dL_receiver_12 : decode cL_receiver 12 = .ok (.astore_n 3, 1) := by decide +kernel
theorem dL_receiver_13 : decode cL_receiver 13 = .ok (.iconst 1, 1) := by decide +kernel
theorem dL_receiver_14 : decode cL_receiver 14 = .ok (.ireturn, 1) := by decide +kernel
theorem dL_receiver_15 : decode cL_receiver 15 = .ok (.iconst 0, 1) := by decide +kernel
theorem dL_receiver_16 : decode cL_receiver 16 = .ok (.ireturn, 1) := by decide +kernel
theorem dL_state_0 : decode cL_state 0 = .ok (.aload_n 2, 1) := by decide +kernel
theorem dL_state_1 : decode cL_state 1 = .ok (.iconst 0, 1) := by decide +kernel
theorem dL_state_2 : decode cL_state 2 = .ok (.aload_n 0, 1) := by decide +kernel
theorem dL_state_3 : decode cL_state 3 = .ok (.iload_n 1, 1) := by decide +kernel
theorem dL_state_4 : decode cL_state 4 = .ok (.invokevirtual 90, 3) := by decide +kernel
theorem dL_state_7 : decode cL_state 7 = .ok (.i2l, 1) := by decide +kernel
theorem dL_state_8 : decode cL_state 8 = .ok (.lastore, 1) := by decide +kernel
theorem dL_state_9 : decode cL_state 9 = .ok (.goto 6, 3) := by decide +kernel
theorem dL_state_12 : decode cL_state 12 = .ok (.astore_n 3, 1) := by decide +kernel
theorem dL_state_13 : decode cL_state 13 = .ok (.iconst 1, 1) := by decide +kernel
theorem dL_state_14 : decode cL_state 14 = .ok (.ireturn, 1) := by decide +kernel
theorem dL_state_15 : decode cL_state 15 = .ok (.iconst 0, 1) := by decide +kernel
theorem dL_state_16 : decode cL_state 16 = .ok (.ireturn, 1) := by decide +kernel
theorem dL_timesLost_0 : decode cL_timesLost 0 = .ok (.aload_n 2, 1) := by decide +kernel
theorem dL_timesLost_1 : decode cL_timesLost 1 = .ok (.iconst 0, 1) := by decide +kernel
theorem dL_timesLost_2 : decode cL_timesLost 2 = .ok (.aload_n 0, 1) := by decide +kernel
theorem dL_timesLost_3 : decode cL_timesLost 3 = .ok (.iload_n 1, 1) := by decide +kernel
theorem dL_timesLost_4 : decode cL_timesLost 4 = .ok (.invokevirtual 94, 3) := by decide +kernel
theorem dL_timesLost_7 : decode cL_timesLost 7 = .ok (.i2l, 1) := by decide +kernel
theorem dL_timesLost_8 : decode cL_timesLost 8 = .ok (.lastore, 1) := by decide +kernel
theorem dL_timesLost_9 : decode cL_timesLost 9 = .ok (.goto 6, 3) := by decide +kernel
theorem dL_timesLost_12 : decode cL_timesLost 12 = .ok (.astore_n 3, 1) := by decide +kernel
theorem dL_timesLost_13 : decode cL_timesLost 13 = .ok (.iconst 1, 1) := by decide +kernel
theorem dL_timesLost_14 : decode cL_timesLost 14 = .ok (.ireturn, 1) := by decide +kernel
theorem dL_timesLost_15 : decode cL_timesLost 15 = .ok (.iconst 0, 1) := by decide +kernel
theorem dL_timesLost_16 : decode cL_timesLost 16 = .ok (.ireturn, 1) := by decide +kernel
theorem dL_beatsDrummed_0 : decode cL_beatsDrummed 0 = .ok (.aload_n 2, 1) := by decide +kernel
theorem dL_beatsDrummed_1 : decode cL_beatsDrummed 1 = .ok (.iconst 0, 1) := by decide +kernel
theorem dL_beatsDrummed_2 : decode cL_beatsDrummed 2 = .ok (.aload_n 0, 1) := by decide +kernel
theorem dL_beatsDrummed_3 : decode cL_beatsDrummed 3 = .ok (.iload_n 1, 1) := by decide +kernel
theorem dL_beatsDrummed_4 : decode cL_beatsDrummed 4 = .ok (.invokevirtual 97, 3) := by decide +kernel
theorem dL_beatsDrummed_7 : decode cL_beatsDrummed 7 = .ok (.i2l, 1) := by decide +kernel
theorem dL_beatsDrummed_8 : decode cL_beatsDrummed 8 = .ok (.lastore, 1) := by decide +kernel
theorem dL_beatsDrummed_9 : decode cL_beatsDrummed 9 = .ok (.goto 6, 3) := by decide +kernel
theorem dL_beatsDrummed_12 : decode cL_beatsDrummed 12 = .ok (.astore_n 3, 1) := by decide +kernel
theorem dL_beatsDrummed_13 : decode cL_beatsDrummed 13 = .ok (.iconst 1, 1) := by decide +kernel
theorem dL_beatsDrummed_14 : decode cL_beatsDrummed 14 = .ok (.ireturn, 1) := by decide +kernel
theorem dL_beatsDrummed_15 : decode cL_beatsDrummed 15 = .ok (.iconst 0, 1) := by decide +kernel
theorem dL_beatsDrummed_16 : decode cL_beatsDrummed 16 = .ok (.ireturn, 1) := by decide +kernel
theorem dL_isThump_0 : decode cL_isThump 0 = .ok (.aload_n 3, 1) := by decide +kernel
theorem dL_isThump_1 : decode cL_isThump 1 = .ok (.iconst 0, 1) := by decide +kernel
theorem dL_isThump_2 : decode cL_isThump 2 = .ok (.aload_n 0, 1) := by decide +kernel
theorem dL_isThump_3 : decode cL_isThump 3 = .ok (.iload_n 1, 1) := by decide +kernel
theorem dL_isThump_4 : decode cL_isThump 4 = .ok (.iload_n 2, 1) := by decide +kernel
theorem dL_isThump_5 : decode cL_isThump 5 = .ok (.invokevirtual 100, 3) := by decide +kernel
theorem dL_isThump_8 : decode cL_isThump 8 = .ok (.ifCond .eq 7, 3) := by decide +kernel
theorem dL_isThump_11 : decode cL_isThump 11 = .ok (.lconst 1, 1) := by decide +kernel
theorem dL_isThump_12 : decode cL_isThump 12 = .ok (.goto 4, 3) := by decide +kernel
theorem dL_isThump_15 : decode cL_isThump 15 = .ok (.lconst 0, 1) := by decide +kernel
theorem dL_isThump_16 : decode cL_isThump 16 = .ok (.lastore, 1) := by decide +kernel
theorem dL_isThump_17 : decode cL_isThump 17 = .ok (.goto 11, 3) := by decide +kernel
theorem dL_isThump_20 : decode cL_isThump 20 = .ok (.astore 4, 2) := by decide +kernel
theorem dL_isThump_22 : decode cL_isThump 22 = .ok (.iconst 1, 1) := by decide +kernel
theorem dL_isThump_23 : decode cL_isThump 23 = .ok (.ireturn, 1) := by decide +kernel
theorem dL_isThump_24 : decode cL_isThump 24 = .ok (.astore 4, 2) := by decide +kernel
theorem dL_isThump_26 : decode cL_isThump 26 = .ok (.iconst 2, 1) := by decide +kernel
theorem dL_isThump_27 : decode cL_isThump 27 = .ok (.ireturn, 1) := by decide +kernel
theorem dL_isThump_28 : decode cL_isThump 28 = .ok (.iconst 0, 1) := by decide +kernel
theorem dL_isThump_29 : decode cL_isThump 29 = .ok (.ireturn, 1) := by decide +kernel
theorem dL_decode_0 : decode cL_decode 0 = .ok (.aload_n 2, 1) := by decide +kernel
theorem dL_decode_1 : decode cL_decode 1 = .ok (.iconst 0, 1) := by decide +kernel
theorem dL_decode_2 : decode cL_decode 2 = .ok (.aload_n 0, 1) := by decide +kernel
theorem dL_decode_3 : decode cL_decode 3 = .ok (.iload_n 1, 1) := by decide +kernel
theorem dL_decode_4 : decode cL_decode 4 = .ok (.invokevirtual 104, 3) := by decide +kernel
theorem dL_decode_7 : decode cL_decode 7 = .ok (.i2l, 1) := by decide +kernel
theorem dL_decode_8 : decode cL_decode 8 = .ok (.lastore, 1) := by decide +kernel
theorem dL_decode_9 : decode cL_decode 9 = .ok (.goto 9, 3) := by decide +kernel
theorem dL_decode_12 : decode cL_decode 12 = .ok (.astore_n 3, 1) := by decide +kernel
theorem dL_decode_13 : decode cL_decode 13 = .ok (.iconst 1, 1) := by decide +kernel
theorem dL_decode_14 : decode cL_decode 14 = .ok (.ireturn, 1) := by decide +kernel
theorem dL_decode_15 : decode cL_decode 15 = .ok (.astore_n 3, 1) := by decide +kernel
theorem dL_decode_16 : decode cL_decode 16 = .ok (.iconst 2, 1) := by decide +kernel
theorem dL_decode_17 : decode cL_decode 17 = .ok (.ireturn, 1) := by decide +kernel
theorem dL_decode_18 : decode cL_decode 18 = .ok (.iconst 0, 1) := by decide +kernel
theorem dL_decode_19 : decode cL_decode 19 = .ok (.ireturn, 1) := by decide +kernel
theorem dL_ticksUntilDelivery_0 : decode cL_ticksUntilDelivery 0 = .ok (.aload_n 2, 1) := by decide +kernel
theorem dL_ticksUntilDelivery_1 : decode cL_ticksUntilDelivery 1 = .ok (.iconst 0, 1) := by decide +kernel
theorem dL_ticksUntilDelivery_2 : decode cL_ticksUntilDelivery 2 = .ok (.aload_n 0, 1) := by decide +kernel
theorem dL_ticksUntilDelivery_3 : decode cL_ticksUntilDelivery 3 = .ok (.iload_n 1, 1) := by decide +kernel
theorem dL_ticksUntilDelivery_4 : decode cL_ticksUntilDelivery 4 = .ok (.invokevirtual 107, 3) := by decide +kernel
theorem dL_ticksUntilDelivery_7 : decode cL_ticksUntilDelivery 7 = .ok (.i2l, 1) := by decide +kernel
theorem dL_ticksUntilDelivery_8 : decode cL_ticksUntilDelivery 8 = .ok (.lastore, 1) := by decide +kernel
theorem dL_ticksUntilDelivery_9 : decode cL_ticksUntilDelivery 9 = .ok (.goto 12, 3) := by decide +kernel
theorem dL_ticksUntilDelivery_12 : decode cL_ticksUntilDelivery 12 = .ok (.astore_n 3, 1) := by decide +kernel
theorem dL_ticksUntilDelivery_13 : decode cL_ticksUntilDelivery 13 = .ok (.iconst 1, 1) := by decide +kernel
theorem dL_ticksUntilDelivery_14 : decode cL_ticksUntilDelivery 14 = .ok (.ireturn, 1) := by decide +kernel
theorem dL_ticksUntilDelivery_15 : decode cL_ticksUntilDelivery 15 = .ok (.astore_n 3, 1) := by decide +kernel
theorem dL_ticksUntilDelivery_16 : decode cL_ticksUntilDelivery 16 = .ok (.iconst 2, 1) := by decide +kernel
theorem dL_ticksUntilDelivery_17 : decode cL_ticksUntilDelivery 17 = .ok (.ireturn, 1) := by decide +kernel
theorem dL_ticksUntilDelivery_18 : decode cL_ticksUntilDelivery 18 = .ok (.astore_n 3, 1) := by decide +kernel
theorem dL_ticksUntilDelivery_19 : decode cL_ticksUntilDelivery 19 = .ok (.iconst 3, 1) := by decide +kernel
theorem dL_ticksUntilDelivery_20 : decode cL_ticksUntilDelivery 20 = .ok (.ireturn, 1) := by decide +kernel
theorem dL_ticksUntilDelivery_21 : decode cL_ticksUntilDelivery 21 = .ok (.iconst 0, 1) := by decide +kernel
theorem dL_ticksUntilDelivery_22 : decode cL_ticksUntilDelivery 22 = .ok (.ireturn, 1) := by decide +kernel
theorem dL_passTicks_0 : decode cL_passTicks 0 = .ok (.aload_n 2, 1) := by decide +kernel
theorem dL_passTicks_1 : decode cL_passTicks 1 = .ok (.iconst 0, 1) := by decide +kernel
theorem dL_passTicks_2 : decode cL_passTicks 2 = .ok (.aload_n 0, 1) := by decide +kernel
theorem dL_passTicks_3 : decode cL_passTicks 3 = .ok (.iload_n 1, 1) := by decide +kernel
theorem dL_passTicks_4 : decode cL_passTicks 4 = .ok (.invokevirtual 112, 3) := by decide +kernel
theorem dL_passTicks_7 : decode cL_passTicks 7 = .ok (.i2l, 1) := by decide +kernel
theorem dL_passTicks_8 : decode cL_passTicks 8 = .ok (.lastore, 1) := by decide +kernel
theorem dL_passTicks_9 : decode cL_passTicks 9 = .ok (.goto 6, 3) := by decide +kernel
theorem dL_passTicks_12 : decode cL_passTicks 12 = .ok (.astore_n 3, 1) := by decide +kernel
theorem dL_passTicks_13 : decode cL_passTicks 13 = .ok (.iconst 1, 1) := by decide +kernel
theorem dL_passTicks_14 : decode cL_passTicks 14 = .ok (.ireturn, 1) := by decide +kernel
theorem dL_passTicks_15 : decode cL_passTicks 15 = .ok (.iconst 0, 1) := by decide +kernel
theorem dL_passTicks_16 : decode cL_passTicks 16 = .ok (.ireturn, 1) := by decide +kernel
theorem dL_thumpsHeard_0 : decode cL_thumpsHeard 0 = .ok (.aload_n 3, 1) := by decide +kernel
theorem dL_thumpsHeard_1 : decode cL_thumpsHeard 1 = .ok (.iconst 0, 1) := by decide +kernel
theorem dL_thumpsHeard_2 : decode cL_thumpsHeard 2 = .ok (.aload_n 0, 1) := by decide +kernel
theorem dL_thumpsHeard_3 : decode cL_thumpsHeard 3 = .ok (.iload_n 1, 1) := by decide +kernel
theorem dL_thumpsHeard_4 : decode cL_thumpsHeard 4 = .ok (.iload_n 2, 1) := by decide +kernel
theorem dL_thumpsHeard_5 : decode cL_thumpsHeard 5 = .ok (.invokevirtual 115, 3) := by decide +kernel
theorem dL_thumpsHeard_8 : decode cL_thumpsHeard 8 = .ok (.i2l, 1) := by decide +kernel
theorem dL_thumpsHeard_9 : decode cL_thumpsHeard 9 = .ok (.lastore, 1) := by decide +kernel
theorem dL_thumpsHeard_10 : decode cL_thumpsHeard 10 = .ok (.goto 11, 3) := by decide +kernel
theorem dL_thumpsHeard_13 : decode cL_thumpsHeard 13 = .ok (.astore 4, 2) := by decide +kernel
theorem dL_thumpsHeard_15 : decode cL_thumpsHeard 15 = .ok (.iconst 1, 1) := by decide +kernel
theorem dL_thumpsHeard_16 : decode cL_thumpsHeard 16 = .ok (.ireturn, 1) := by decide +kernel
theorem dL_thumpsHeard_17 : decode cL_thumpsHeard 17 = .ok (.astore 4, 2) := by decide +kernel
theorem dL_thumpsHeard_19 : decode cL_thumpsHeard 19 = .ok (.iconst 2, 1) := by decide +kernel
theorem dL_thumpsHeard_20 : decode cL_thumpsHeard 20 = .ok (.ireturn, 1) := by decide +kernel
theorem dL_thumpsHeard_21 : decode cL_thumpsHeard 21 = .ok (.iconst 0, 1) := by decide +kernel
theorem dL_thumpsHeard_22 : decode cL_thumpsHeard 22 = .ok (.ireturn, 1) := by decide +kernel
theorem dL_meanLoudness_0 : decode cL_meanLoudness 0 = .ok (.aload_n 2, 1) := by decide +kernel
theorem dL_meanLoudness_1 : decode cL_meanLoudness 1 = .ok (.iconst 0, 1) := by decide +kernel
theorem dL_meanLoudness_2 : decode cL_meanLoudness 2 = .ok (.aload_n 0, 1) := by decide +kernel
theorem dL_meanLoudness_3 : decode cL_meanLoudness 3 = .ok (.iload_n 1, 1) := by decide +kernel
theorem dL_meanLoudness_4 : decode cL_meanLoudness 4 = .ok (.invokevirtual 118, 3) := by decide +kernel
theorem dL_meanLoudness_7 : decode cL_meanLoudness 7 = .ok (.f2d, 1) := by decide +kernel
theorem dL_meanLoudness_8 : decode cL_meanLoudness 8 = .ok (.dastore, 1) := by decide +kernel
theorem dL_meanLoudness_9 : decode cL_meanLoudness 9 = .ok (.goto 6, 3) := by decide +kernel
theorem dL_meanLoudness_12 : decode cL_meanLoudness 12 = .ok (.astore_n 3, 1) := by decide +kernel
theorem dL_meanLoudness_13 : decode cL_meanLoudness 13 = .ok (.iconst 1, 1) := by decide +kernel
theorem dL_meanLoudness_14 : decode cL_meanLoudness 14 = .ok (.ireturn, 1) := by decide +kernel
theorem dL_meanLoudness_15 : decode cL_meanLoudness 15 = .ok (.iconst 0, 1) := by decide +kernel
theorem dL_meanLoudness_16 : decode cL_meanLoudness 16 = .ok (.ireturn, 1) := by decide +kernel
theorem dL_deliveryFraction_0 : decode cL_deliveryFraction 0 = .ok (.aload_n 1, 1) := by decide +kernel
theorem dL_deliveryFraction_1 : decode cL_deliveryFraction 1 = .ok (.iconst 0, 1) := by decide +kernel
theorem dL_deliveryFraction_2 : decode cL_deliveryFraction 2 = .ok (.aload_n 0, 1) := by decide +kernel
theorem dL_deliveryFraction_3 : decode cL_deliveryFraction 3 = .ok (.invokevirtual 122, 3) := by decide +kernel
theorem dL_deliveryFraction_6 : decode cL_deliveryFraction 6 = .ok (.dastore, 1) := by decide +kernel
theorem dL_deliveryFraction_7 : decode cL_deliveryFraction 7 = .ok (.goto 6, 3) := by decide +kernel
theorem dL_deliveryFraction_10 : decode cL_deliveryFraction 10 = .ok (.astore_n 2, 1) := by decide +kernel
theorem dL_deliveryFraction_11 : decode cL_deliveryFraction 11 = .ok (.iconst 1, 1) := by decide +kernel
theorem dL_deliveryFraction_12 : decode cL_deliveryFraction 12 = .ok (.ireturn, 1) := by decide +kernel
theorem dL_deliveryFraction_13 : decode cL_deliveryFraction 13 = .ok (.iconst 0, 1) := by decide +kernel
theorem dL_deliveryFraction_14 : decode cL_deliveryFraction 14 = .ok (.ireturn, 1) := by decide +kernel
theorem dL_writeMessage_0 : decode cL_writeMessage 0 = .ok (.aload_n 2, 1) := by decide +kernel
theorem dL_writeMessage_1 : decode cL_writeMessage 1 = .ok (.iconst 0, 1) := by decide +kernel
theorem dL_writeMessage_2 : decode cL_writeMessage 2 = .ok (.aload_n 0, 1) := by decide +kernel
theorem dL_writeMessage_3 : decode cL_writeMessage 3 = .ok (.iload_n 1, 1) := by decide +kernel
theorem dL_writeMessage_4 : decode cL_writeMessage 4 = .ok (.invokevirtual 128, 3) := by decide +kernel
theorem dL_writeMessage_7 : decode cL_writeMessage 7 = .ok (.i2l, 1) := by decide +kernel
theorem dL_writeMessage_8 : decode cL_writeMessage 8 = .ok (.lastore, 1) := by decide +kernel
theorem dL_writeMessage_9 : decode cL_writeMessage 9 = .ok (.goto 6, 3) := by decide +kernel
theorem dL_writeMessage_12 : decode cL_writeMessage 12 = .ok (.astore_n 3, 1) := by decide +kernel
theorem dL_writeMessage_13 : decode cL_writeMessage 13 = .ok (.iconst 1, 1) := by decide +kernel
theorem dL_writeMessage_14 : decode cL_writeMessage 14 = .ok (.ireturn, 1) := by decide +kernel
theorem dL_writeMessage_15 : decode cL_writeMessage 15 = .ok (.iconst 0, 1) := by decide +kernel
theorem dL_writeMessage_16 : decode cL_writeMessage 16 = .ok (.ireturn, 1) := by decide +kernel
theorem dL_writeCode_0 : decode cL_writeCode 0 = .ok (.aload_n 2, 1) := by decide +kernel
theorem dL_writeCode_1 : decode cL_writeCode 1 = .ok (.iconst 0, 1) := by decide +kernel
theorem dL_writeCode_2 : decode cL_writeCode 2 = .ok (.aload_n 0, 1) := by decide +kernel
theorem dL_writeCode_3 : decode cL_writeCode 3 = .ok (.iload_n 1, 1) := by decide +kernel
theorem dL_writeCode_4 : decode cL_writeCode 4 = .ok (.invokevirtual 131, 3) := by decide +kernel
theorem dL_writeCode_7 : decode cL_writeCode 7 = .ok (.i2l, 1) := by decide +kernel
theorem dL_writeCode_8 : decode cL_writeCode 8 = .ok (.lastore, 1) := by decide +kernel
theorem dL_writeCode_9 : decode cL_writeCode 9 = .ok (.goto 6, 3) := by decide +kernel
theorem dL_writeCode_12 : decode cL_writeCode 12 = .ok (.astore_n 3, 1) := by decide +kernel
theorem dL_writeCode_13 : decode cL_writeCode 13 = .ok (.iconst 1, 1) := by decide +kernel
theorem dL_writeCode_14 : decode cL_writeCode 14 = .ok (.ireturn, 1) := by decide +kernel
theorem dL_writeCode_15 : decode cL_writeCode 15 = .ok (.iconst 0, 1) := by decide +kernel
theorem dL_writeCode_16 : decode cL_writeCode 16 = .ok (.ireturn, 1) := by decide +kernel
theorem dL_outputCharacter_0 : decode cL_outputCharacter 0 = .ok (.aload_n 2, 1) := by decide +kernel
theorem dL_outputCharacter_1 : decode cL_outputCharacter 1 = .ok (.iconst 0, 1) := by decide +kernel
theorem dL_outputCharacter_2 : decode cL_outputCharacter 2 = .ok (.aload_n 0, 1) := by decide +kernel
theorem dL_outputCharacter_3 : decode cL_outputCharacter 3 = .ok (.iload_n 1, 1) := by decide +kernel
theorem dL_outputCharacter_4 : decode cL_outputCharacter 4 = .ok (.invokevirtual 134, 3) := by decide +kernel
theorem dL_outputCharacter_7 : decode cL_outputCharacter 7 = .ok (.i2l, 1) := by decide +kernel
theorem dL_outputCharacter_8 : decode cL_outputCharacter 8 = .ok (.lastore, 1) := by decide +kernel
theorem dL_outputCharacter_9 : decode cL_outputCharacter 9 = .ok (.goto 6, 3) := by decide +kernel
theorem dL_outputCharacter_12 : decode cL_outputCharacter 12 = .ok (.astore_n 3, 1) := by decide +kernel
theorem dL_outputCharacter_13 : decode cL_outputCharacter 13 = .ok (.iconst 1, 1) := by decide +kernel
theorem dL_outputCharacter_14 : decode cL_outputCharacter 14 = .ok (.ireturn, 1) := by decide +kernel
theorem dL_outputCharacter_15 : decode cL_outputCharacter 15 = .ok (.iconst 0, 1) := by decide +kernel
theorem dL_outputCharacter_16 : decode cL_outputCharacter 16 = .ok (.ireturn, 1) := by decide +kernel
theorem dL_feed_0 : decode cL_feed 0 = .ok (.aload_n 2, 1) := by decide +kernel
theorem dL_feed_1 : decode cL_feed 1 = .ok (.iconst 0, 1) := by decide +kernel
theorem dL_feed_2 : decode cL_feed 2 = .ok (.aload_n 0, 1) := by decide +kernel
theorem dL_feed_3 : decode cL_feed 3 = .ok (.iload_n 1, 1) := by decide +kernel
theorem dL_feed_4 : decode cL_feed 4 = .ok (.invokevirtual 137, 3) := by decide +kernel
theorem dL_feed_7 : decode cL_feed 7 = .ok (.i2l, 1) := by decide +kernel
theorem dL_feed_8 : decode cL_feed 8 = .ok (.lastore, 1) := by decide +kernel
theorem dL_feed_9 : decode cL_feed 9 = .ok (.goto 6, 3) := by decide +kernel
theorem dL_feed_12 : decode cL_feed 12 = .ok (.astore_n 3, 1) := by decide +kernel
theorem dL_feed_13 : decode cL_feed 13 = .ok (.iconst 1, 1) := by decide +kernel
theorem dL_feed_14 : decode cL_feed 14 = .ok (.ireturn, 1) := by decide +kernel
theorem dL_feed_15 : decode cL_feed 15 = .ok (.iconst 0, 1) := by decide +kernel
theorem dL_feed_16 : decode cL_feed 16 = .ok (.ireturn, 1) := by decide +kernel
theorem dL_execute_0 : decode cL_execute 0 = .ok (.aload_n 1, 1) := by decide +kernel
theorem dL_execute_1 : decode cL_execute 1 = .ok (.iconst 0, 1) := by decide +kernel
theorem dL_execute_2 : decode cL_execute 2 = .ok (.aload_n 0, 1) := by decide +kernel
theorem dL_execute_3 : decode cL_execute 3 = .ok (.invokevirtual 141, 3) := by decide +kernel
theorem dL_execute_6 : decode cL_execute 6 = .ok (.i2l, 1) := by decide +kernel
theorem dL_execute_7 : decode cL_execute 7 = .ok (.lastore, 1) := by decide +kernel
theorem dL_execute_8 : decode cL_execute 8 = .ok (.goto 9, 3) := by decide +kernel
theorem dL_execute_11 : decode cL_execute 11 = .ok (.astore_n 2, 1) := by decide +kernel
theorem dL_execute_12 : decode cL_execute 12 = .ok (.iconst 1, 1) := by decide +kernel
theorem dL_execute_13 : decode cL_execute 13 = .ok (.ireturn, 1) := by decide +kernel
theorem dL_execute_14 : decode cL_execute 14 = .ok (.astore_n 2, 1) := by decide +kernel
theorem dL_execute_15 : decode cL_execute 15 = .ok (.iconst 2, 1) := by decide +kernel
theorem dL_execute_16 : decode cL_execute 16 = .ok (.ireturn, 1) := by decide +kernel
theorem dL_execute_17 : decode cL_execute 17 = .ok (.iconst 0, 1) := by decide +kernel
theorem dL_execute_18 : decode cL_execute 18 = .ok (.ireturn, 1) := by decide +kernel
theorem dL_errorPosition_0 : decode cL_errorPosition 0 = .ok (.aload_n 1, 1) := by decide +kernel
theorem dL_errorPosition_1 : decode cL_errorPosition 1 = .ok (.iconst 0, 1) := by decide +kernel
theorem dL_errorPosition_2 : decode cL_errorPosition 2 = .ok (.aload_n 0, 1) := by decide +kernel
theorem dL_errorPosition_3 : decode cL_errorPosition 3 = .ok (.invokevirtual 144, 3) := by decide +kernel
theorem dL_errorPosition_6 : decode cL_errorPosition 6 = .ok (.i2l, 1) := by decide +kernel
theorem dL_errorPosition_7 : decode cL_errorPosition 7 = .ok (.lastore, 1) := by decide +kernel
theorem dL_errorPosition_8 : decode cL_errorPosition 8 = .ok (.goto 6, 3) := by decide +kernel
theorem dL_errorPosition_11 : decode cL_errorPosition 11 = .ok (.astore_n 2, 1) := by decide +kernel
theorem dL_errorPosition_12 : decode cL_errorPosition 12 = .ok (.iconst 1, 1) := by decide +kernel
theorem dL_errorPosition_13 : decode cL_errorPosition 13 = .ok (.ireturn, 1) := by decide +kernel
theorem dL_errorPosition_14 : decode cL_errorPosition 14 = .ok (.iconst 0, 1) := by decide +kernel
theorem dL_errorPosition_15 : decode cL_errorPosition 15 = .ok (.ireturn, 1) := by decide +kernel
theorem dL_failedCommand_0 : decode cL_failedCommand 0 = .ok (.aload_n 1, 1) := by decide +kernel
theorem dL_failedCommand_1 : decode cL_failedCommand 1 = .ok (.iconst 0, 1) := by decide +kernel
theorem dL_failedCommand_2 : decode cL_failedCommand 2 = .ok (.aload_n 0, 1) := by decide +kernel
theorem dL_failedCommand_3 : decode cL_failedCommand 3 = .ok (.invokevirtual 147, 3) := by decide +kernel
theorem dL_failedCommand_6 : decode cL_failedCommand 6 = .ok (.i2l, 1) := by decide +kernel
theorem dL_failedCommand_7 : decode cL_failedCommand 7 = .ok (.lastore, 1) := by decide +kernel
theorem dL_failedCommand_8 : decode cL_failedCommand 8 = .ok (.goto 6, 3) := by decide +kernel
theorem dL_failedCommand_11 : decode cL_failedCommand 11 = .ok (.astore_n 2, 1) := by decide +kernel
theorem dL_failedCommand_12 : decode cL_failedCommand 12 = .ok (.iconst 1, 1) := by decide +kernel
theorem dL_failedCommand_13 : decode cL_failedCommand 13 = .ok (.ireturn, 1) := by decide +kernel
theorem dL_failedCommand_14 : decode cL_failedCommand 14 = .ok (.iconst 0, 1) := by decide +kernel
theorem dL_failedCommand_15 : decode cL_failedCommand 15 = .ok (.ireturn, 1) := by decide +kernel
theorem dL_undo_0 : decode cL_undo 0 = .ok (.aload_n 1, 1) := by decide +kernel
theorem dL_undo_1 : decode cL_undo 1 = .ok (.iconst 0, 1) := by decide +kernel
theorem dL_undo_2 : decode cL_undo 2 = .ok (.aload_n 0, 1) := by decide +kernel
theorem dL_undo_3 : decode cL_undo 3 = .ok (.invokevirtual 150, 3) := by decide +kernel
theorem dL_undo_6 : decode cL_undo 6 = .ok (.i2l, 1) := by decide +kernel
theorem dL_undo_7 : decode cL_undo 7 = .ok (.lastore, 1) := by decide +kernel
theorem dL_undo_8 : decode cL_undo 8 = .ok (.goto 6, 3) := by decide +kernel
theorem dL_undo_11 : decode cL_undo 11 = .ok (.astore_n 2, 1) := by decide +kernel
theorem dL_undo_12 : decode cL_undo 12 = .ok (.iconst 1, 1) := by decide +kernel
theorem dL_undo_13 : decode cL_undo 13 = .ok (.ireturn, 1) := by decide +kernel
theorem dL_undo_14 : decode cL_undo 14 = .ok (.iconst 0, 1) := by decide +kernel
theorem dL_undo_15 : decode cL_undo 15 = .ok (.ireturn, 1) := by decide +kernel
theorem dL_restore_0 : decode cL_restore 0 = .ok (.aload_n 1, 1) := by decide +kernel
theorem dL_restore_1 : decode cL_restore 1 = .ok (.iconst 0, 1) := by decide +kernel
theorem dL_restore_2 : decode cL_restore 2 = .ok (.aload_n 0, 1) := by decide +kernel
theorem dL_restore_3 : decode cL_restore 3 = .ok (.invokevirtual 153, 3) := by decide +kernel
theorem dL_restore_6 : decode cL_restore 6 = .ok (.i2l, 1) := by decide +kernel
theorem dL_restore_7 : decode cL_restore 7 = .ok (.lastore, 1) := by decide +kernel
theorem dL_restore_8 : decode cL_restore 8 = .ok (.goto 6, 3) := by decide +kernel
theorem dL_restore_11 : decode cL_restore 11 = .ok (.astore_n 2, 1) := by decide +kernel
theorem dL_restore_12 : decode cL_restore 12 = .ok (.iconst 1, 1) := by decide +kernel
theorem dL_restore_13 : decode cL_restore 13 = .ok (.ireturn, 1) := by decide +kernel
theorem dL_restore_14 : decode cL_restore 14 = .ok (.iconst 0, 1) := by decide +kernel
theorem dL_restore_15 : decode cL_restore 15 = .ok (.ireturn, 1) := by decide +kernel
