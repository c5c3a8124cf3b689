theorem dL_addChamber_0 : decode cL_addChamber 0 = .ok (.aload_n 0, 1) := by decide +kernel
theorem dL_addChamber_1 : decode cL_addChamber 1 = .ok (.invokevirtual 8, 3) := by decide +kernel
theorem dL_addChamber_4 : decode cL_addChamber 4 = .ok (.ireturn, 1) := by decide +kernel
theorem dL_addChamber_5 : decode cL_addChamber 5 = .ok (.astore_n 1, 1) := by decide +kernel
theorem dL_addChamber_6 : decode cL_addChamber 6 = .ok (.iconst (-1), 1) := by decide +kernel
theorem dL_addChamber_7 : decode cL_addChamber 7 = .ok (.ireturn, 1) := by decide +kernel
theorem dL_addTunnel_0 : decode cL_addTunnel 0 = .ok (.aload_n 0, 1) := by decide +kernel
theorem dL_addTunnel_1 : decode cL_addTunnel 1 = .ok (.iload_n 1, 1) := by decide +kernel
theorem dL_addTunnel_2 : decode cL_addTunnel 2 = .ok (.iload_n 2, 1) := by decide +kernel
theorem dL_addTunnel_3 : decode cL_addTunnel 3 = .ok (.iload_n 3, 1) := by decide +kernel
theorem dL_addTunnel_4 : decode cL_addTunnel 4 = .ok (.invokevirtual 16, 3) := by decide +kernel
theorem dL_addTunnel_7 : decode cL_addTunnel 7 = .ok (.ireturn, 1) := by decide +kernel
theorem dL_addTunnel_8 : decode cL_addTunnel 8 = .ok (.astore 4, 2) := by decide +kernel
theorem dL_addTunnel_10 : decode cL_addTunnel 10 = .ok (.iconst (-1), 1) := by decide +kernel
theorem dL_addTunnel_11 : decode cL_addTunnel 11 = .ok (.ireturn, 1) := by decide +kernel
theorem dL_addTunnel_12 : decode cL_addTunnel 12 = .ok (.astore 4, 2) := by decide +kernel
theorem dL_addTunnel_14 : decode cL_addTunnel 14 = .ok (.bipush (-2), 2) := by decide +kernel
theorem dL_addTunnel_16 : decode cL_addTunnel 16 = .ok (.ireturn, 1) := by decide +kernel
theorem dL_addTunnel_17 : decode cL_addTunnel 17 = .ok (.astore 4, 2) := by decide +kernel
theorem dL_addTunnel_19 : decode cL_addTunnel 19 = .ok (.bipush (-3), 2) := by decide +kernel
theorem dL_addTunnel_21 : decode cL_addTunnel 21 = .ok (.ireturn, 1) := by decide +kernel
theorem dL_removeTunnel_0 : decode cL_removeTunnel 0 = .ok (.aload_n 0, 1) := by decide +kernel
theorem dL_removeTunnel_1 : decode cL_removeTunnel 1 = .ok (.iload_n 1, 1) := by decide +kernel
theorem dL_removeTunnel_2 : decode cL_removeTunnel 2 = .ok (.iload_n 2, 1) := by decide +kernel
theorem dL_removeTunnel_3 : decode cL_removeTunnel 3 = .ok (.invokevirtual 24, 3) := by decide +kernel
theorem dL_removeTunnel_6 : decode cL_removeTunnel 6 = .ok (.ireturn, 1) := by decide +kernel
theorem dL_removeTunnel_7 : decode cL_removeTunnel 7 = .ok (.astore_n 3, 1) := by decide +kernel
theorem dL_removeTunnel_8 : decode cL_removeTunnel 8 = .ok (.iconst (-1), 1) := by decide +kernel
theorem dL_removeTunnel_9 : decode cL_removeTunnel 9 = .ok (.ireturn, 1) := by decide +kernel
theorem dL_removeTunnel_10 : decode cL_removeTunnel 10 = .ok (.astore_n 3, 1) := by decide +kernel
theorem dL_removeTunnel_11 : decode cL_removeTunnel 11 = .ok (.bipush (-2), 2) := by decide +kernel
theorem dL_removeTunnel_13 : decode cL_removeTunnel 13 = .ok (.ireturn, 1) := by decide +kernel
theorem dL_delayOf_0 : decode cL_delayOf 0 = .ok (.aload_n 0, 1) := by decide +kernel
theorem dL_delayOf_1 : decode cL_delayOf 1 = .ok (.iload_n 1, 1) := by decide +kernel
theorem dL_delayOf_2 : decode cL_delayOf 2 = .ok (.iload_n 2, 1) := by decide +kernel
theorem dL_delayOf_3 : decode cL_delayOf 3 = .ok (.invokevirtual 30, 3) := by decide +kernel
theorem dL_delayOf_6 : decode cL_delayOf 6 = .ok (.ireturn, 1) := by decide +kernel
theorem dL_delayOf_7 : decode cL_delayOf 7 = .ok (.astore_n 3, 1) := by decide +kernel
theorem dL_delayOf_8 : decode cL_delayOf 8 = .ok (.bipush (-11), 2) := by decide +kernel
theorem dL_delayOf_10 : decode cL_delayOf 10 = .ok (.ireturn, 1) := by decide +kernel
theorem dL_delayOf_11 : decode cL_delayOf 11 = .ok (.astore_n 3, 1) := by decide +kernel
theorem dL_delayOf_12 : decode cL_delayOf 12 = .ok (.bipush (-13), 2) := by decide +kernel
theorem dL_delayOf_14 : decode cL_delayOf 14 = .ok (.ireturn, 1) := by decide +kernel
theorem dL_shortest_0 : decode cL_shortest 0 = .ok (.aload_n 0, 1) := by decide +kernel
theorem dL_shortest_1 : decode cL_shortest 1 = .ok (.iload_n 1, 1) := by decide +kernel
theorem dL_shortest_2 : decode cL_shortest 2 = .ok (.iload_n 2, 1) := by decide +kernel
theorem dL_shortest_3 : decode cL_shortest 3 = .ok (.invokevirtual 33, 3) := by decide +kernel
theorem dL_shortest_6 : decode cL_shortest 6 = .ok (.ireturn, 1) := by decide +kernel
theorem dL_shortest_7 : decode cL_shortest 7 = .ok (.astore_n 3, 1) := by decide +kernel
theorem dL_shortest_8 : decode cL_shortest 8 = .ok (.bipush (-11), 2) := by decide +kernel
theorem dL_shortest_10 : decode cL_shortest 10 = .ok (.ireturn, 1) := by decide +kernel
theorem dL_shortest_11 : decode cL_shortest 11 = .ok (.astore_n 3, 1) := by decide +kernel
theorem dL_shortest_12 : decode cL_shortest 12 = .ok (.bipush (-13), 2) := by decide +kernel
theorem dL_shortest_14 : decode cL_shortest 14 = .ok (.ireturn, 1) := by decide +kernel
theorem dL_bySearch_0 : decode cL_bySearch 0 = .ok (.aload_n 0, 1) := by decide +kernel
theorem dL_bySearch_1 : decode cL_bySearch 1 = .ok (.iload_n 1, 1) := by decide +kernel
theorem dL_bySearch_2 : decode cL_bySearch 2 = .ok (.iload_n 2, 1) := by decide +kernel
theorem dL_bySearch_3 : decode cL_bySearch 3 = .ok (.invokevirtual 36, 3) := by decide +kernel
theorem dL_bySearch_6 : decode cL_bySearch 6 = .ok (.ireturn, 1) := by decide +kernel
theorem dL_bySearch_7 : decode cL_bySearch 7 = .ok (.astore_n 3, 1) := by decide +kernel
theorem dL_bySearch_8 : decode cL_bySearch 8 = .ok (.bipush (-11), 2) := by decide +kernel
theorem dL_bySearch_10 : decode cL_bySearch 10 = .ok (.ireturn, 1) := by decide +kernel
theorem dL_bySearch_11 : decode cL_bySearch 11 = .ok (.astore_n 3, 1) := by decide +kernel
theorem dL_bySearch_12 : decode cL_bySearch 12 = .ok (.bipush (-13), 2) := by decide +kernel
theorem dL_bySearch_14 : decode cL_bySearch 14 = .ok (.ireturn, 1) := by decide +kernel
theorem dL_loudBits_0 : decode cL_loudBits 0 = .ok (.aload_n 0, 1) := by decide +kernel
theorem dL_loudBits_1 : decode cL_loudBits 1 = .ok (.iload_n 1, 1) := by decide +kernel
theorem dL_loudBits_2 : decode cL_loudBits 2 = .ok (.iload_n 2, 1) := by decide +kernel
theorem dL_loudBits_3 : decode cL_loudBits 3 = .ok (.invokevirtual 39, 3) := by decide +kernel
theorem dL_loudBits_6 : decode cL_loudBits 6 = .ok (.ireturn, 1) := by decide +kernel
theorem dL_loudBits_7 : decode cL_loudBits 7 = .ok (.astore_n 3, 1) := by decide +kernel
theorem dL_loudBits_8 : decode cL_loudBits 8 = .ok (.bipush (-11), 2) := by decide +kernel
theorem dL_loudBits_10 : decode cL_loudBits 10 = .ok (.ireturn, 1) := by decide +kernel
theorem dL_addHare_0 : decode cL_addHare 0 = .ok (.aload_n 0, 1) := by decide +kernel
theorem dL_addHare_1 : decode cL_addHare 1 = .ok (.iload_n 1, 1) := by decide +kernel
theorem dL_addHare_2 : decode cL_addHare 2 = .ok (.invokevirtual 42, 3) := by decide +kernel
theorem dL_addHare_5 : decode cL_addHare 5 = .ok (.ireturn, 1) := by decide +kernel
theorem dL_addHare_6 : decode cL_addHare 6 = .ok (.astore_n 2, 1) := by decide +kernel
theorem dL_addHare_7 : decode cL_addHare 7 = .ok (.iconst (-1), 1) := by decide +kernel
theorem dL_addHare_8 : decode cL_addHare 8 = .ok (.ireturn, 1) := by decide +kernel
theorem dL_addHare_9 : decode cL_addHare 9 = .ok (.astore_n 2, 1) := by decide +kernel
theorem dL_addHare_10 : decode cL_addHare 10 = .ok (.bipush (-2), 2) := by decide +kernel
theorem dL_addHare_12 : decode cL_addHare 12 = .ok (.ireturn, 1) := by decide +kernel
theorem dL_move_0 : decode cL_move 0 = .ok (.aload_n 0, 1) := by decide +kernel
theorem dL_move_1 : decode cL_move 1 = .ok (.iload_n 1, 1) := by decide +kernel
theorem dL_move_2 : decode cL_move 2 = .ok (.iload_n 2, 1) := by decide +kernel
theorem dL_move_3 : decode cL_move 3 = .ok (.invokevirtual 46, 3) := by decide +kernel
theorem dL_move_6 : decode cL_move 6 = .ok (.ireturn, 1) := by decide +kernel
theorem dL_move_7 : decode cL_move 7 = .ok (.astore_n 3, 1) := by decide +kernel
theorem dL_move_8 : decode cL_move 8 = .ok (.iconst (-1), 1) := by decide +kernel
theorem dL_move_9 : decode cL_move 9 = .ok (.ireturn, 1) := by decide +kernel
theorem dL_move_10 : decode cL_move 10 = .ok (.astore_n 3, 1) := by decide +kernel
theorem dL_move_11 : decode cL_move 11 = .ok (.bipush (-2), 2) := by decide +kernel
theorem dL_move_13 : decode cL_move 13 = .ok (.ireturn, 1) := by decide +kernel
theorem dL_listen_0 : decode cL_listen 0 = .ok (.aload_n 0, 1) := by decide +kernel
theorem dL_listen_1 : decode cL_listen 1 = .ok (.iload_n 1, 1) := by decide +kernel
theorem dL_listen_2 : decode cL_listen 2 = .ok (.iload_n 2, 1) := by decide +kernel
theorem dL_listen_3 : decode cL_listen 3 = .ok (.invokevirtual 49, 3) := by decide +kernel
theorem dL_listen_6 : decode cL_listen 6 = .ok (.ifCond .eq 7, 3) := by decide +kernel
theorem dL_listen_9 : decode cL_listen 9 = .ok (.iconst 1, 1) := by decide +kernel
theorem dL_listen_10 : decode cL_listen 10 = .ok (.goto 4, 3) := by decide +kernel
theorem dL_listen_13 : decode cL_listen 13 = .ok (.iconst 0, 1) := by decide +kernel
theorem dL_listen_14 : decode cL_listen 14 = .ok (.ireturn, 1) := by decide +kernel
theorem dL_listen_15 : decode cL_listen 15 = .ok (.astore_n 3, 1) := by decide +kernel
theorem dL_listen_16 : decode cL_listen 16 = .ok (.iconst (-1), 1) := by decide +kernel
theorem dL_listen_17 : decode cL_listen 17 = .ok (.ireturn, 1) := by decide +kernel
theorem dL_chamberOf_0 : decode cL_chamberOf 0 = .ok (.aload_n 0, 1) := by decide +kernel
theorem dL_chamberOf_1 : decode cL_chamberOf 1 = .ok (.iload_n 1, 1) := by decide +kernel
theorem dL_chamberOf_2 : decode cL_chamberOf 2 = .ok (.invokevirtual 53, 3) := by decide +kernel
theorem dL_chamberOf_5 : decode cL_chamberOf 5 = .ok (.ireturn, 1) := by decide +kernel
theorem dL_chamberOf_6 : decode cL_chamberOf 6 = .ok (.astore_n 2, 1) := by decide +kernel
theorem dL_chamberOf_7 : decode cL_chamberOf 7 = .ok (.bipush (-11), 2) := by decide +kernel
theorem dL_chamberOf_9 : decode cL_chamberOf 9 = .ok (.ireturn, 1) := by decide +kernel
theorem dL_isListening_0 : decode cL_isListening 0 = .ok (.aload_n 0, 1) := by decide +kernel
theorem dL_isListening_1 : decode cL_isListening 1 = .ok (.iload_n 1, 1) := by decide +kernel
theorem dL_isListening_2 : decode cL_isListening 2 = .ok (.invokevirtual 56, 3) := by decide +kernel
theorem dL_isListening_5 : decode cL_isListening 5 = .ok (.ifCond .eq 7, 3) := by decide +kernel
theorem dL_isListening_8 : decode cL_isListening 8 = .ok (.iconst 1, 1) := by decide +kernel
theorem dL_isListening_9 : decode cL_isListening 9 = .ok (.goto 4, 3) := by decide +kernel
theorem dL_isListening_12 : decode cL_isListening 12 = .ok (.iconst 0, 1) := by decide +kernel
theorem dL_isListening_13 : decode cL_isListening 13 = .ok (.ireturn, 1) := by decide +kernel
theorem dL_isListening_14 : decode cL_isListening 14 = .ok (.astore_n 2, 1) := by decide +kernel
theorem dL_isListening_15 : decode cL_isListening 15 = .ok (.bipush (-11), 2) := by decide +kernel
theorem dL_isListening_17 : decode cL_isListening 17 = .ok (.ireturn, 1) := by decide +kernel
theorem dL_isDrumming_0 : decode cL_isDrumming 0 = .ok (.aload_n 0, 1) := by decide +kernel
theorem dL_isDrumming_1 : decode cL_isDrumming 1 = .ok (.iload_n 1, 1) := by decide +kernel
theorem dL_isDrumming_2 : decode cL_isDrumming 2 = .ok (.invokevirtual 60, 3) := by decide +kernel
theorem dL_isDrumming_5 : decode cL_isDrumming 5 = .ok (.ifCond .eq 7, 3) := by decide +kernel
theorem dL_isDrumming_8 : decode cL_isDrumming 8 = .ok (.iconst 1, 1) := by decide +kernel
theorem dL_isDrumming_9 : decode cL_isDrumming 9 = .ok (.goto 4, 3) := by decide +kernel
theorem dL_isDrumming_12 : decode cL_isDrumming 12 = .ok (.iconst 0, 1) := by decide +kernel
theorem dL_isDrumming_13 : decode cL_isDrumming 13 = .ok (.ireturn, 1) := by decide +kernel
theorem dL_isDrumming_14 : decode cL_isDrumming 14 = .ok (.astore_n 2, 1) := by decide +kernel
theorem dL_isDrumming_15 : decode cL_isDrumming 15 = .ok (.bipush (-11), 2) := by decide +kernel
theorem dL_isDrumming_17 : decode cL_isDrumming 17 = .ok (.ireturn, 1) := by decide +kernel
theorem dL_received_0 : decode cL_received 0 = .ok (.aload_n 0, 1) := by decide +kernel
theorem dL_received_1 : decode cL_received 1 = .ok (.iload_n 1, 1) := by decide +kernel
theorem dL_received_2 : decode cL_received 2 = .ok (.invokevirtual 63, 3) := by decide +kernel
theorem dL_received_5 : decode cL_received 5 = .ok (.ireturn, 1) := by decide +kernel
theorem dL_received_6 : decode cL_received 6 = .ok (.astore_n 2, 1) := by decide +kernel
theorem dL_received_7 : decode cL_received 7 = .ok (.bipush (-11), 2) := by decide +kernel
theorem dL_received_9 : decode cL_received 9 = .ok (.ireturn, 1) := by decide +kernel
theorem dL_latest_0 : decode cL_latest 0 = .ok (.aload_n 0, 1) := by decide +kernel
theorem dL_latest_1 : decode cL_latest 1 = .ok (.iload_n 1, 1) := by decide +kernel
theorem dL_latest_2 : decode cL_latest 2 = .ok (.invokevirtual 66, 3) := by decide +kernel
theorem dL_latest_5 : decode cL_latest 5 = .ok (.ireturn, 1) := by decide +kernel
theorem dL_latest_6 : decode cL_latest 6 = .ok (.astore_n 2, 1) := by decide +kernel
theorem dL_latest_7 : decode cL_latest 7 = .ok (.bipush (-11), 2) := by decide +kernel
theorem dL_latest_9 : decode cL_latest 9 = .ok (.ireturn, 1) := by decide +kernel
theorem dL_latest_10 : decode cL_latest 10 = .ok (.astore_n 2, 1) := by decide +kernel
theorem dL_latest_11 : decode cL_latest 11 = .ok (.bipush (-13), 2) := by decide +kernel
theorem dL_latest_13 : decode cL_latest 13 = .ok (.ireturn, 1) := by decide +kernel
theorem dL_byReceived_0 : decode cL_byReceived 0 = .ok (.aload_n 0, 1) := by decide +kernel
theorem dL_byReceived_1 : decode cL_byReceived 1 = .ok (.iload_n 1, 1) := by decide +kernel
theorem dL_byReceived_2 : decode cL_byReceived 2 = .ok (.invokevirtual 69, 3) := by decide +kernel
theorem dL_byReceived_5 : decode cL_byReceived 5 = .ok (.ireturn, 1) := by decide +kernel
theorem dL_byReceived_6 : decode cL_byReceived 6 = .ok (.astore_n 2, 1) := by decide +kernel
theorem dL_byReceived_7 : decode cL_byReceived 7 = .ok (.bipush (-13), 2) := by decide +kernel
theorem dL_byReceived_9 : decode cL_byReceived 9 = .ok (.ireturn, 1) := by decide +kernel
theorem dL_say_0 : decode cL_say 0 = .ok (.aload_n 0, 1) := by decide +kernel
theorem dL_say_1 : decode cL_say 1 = .ok (.iload_n 1, 1) := by decide +kernel
theorem dL_say_2 : decode cL_say 2 = .ok (.iload_n 2, 1) := by decide +kernel
theorem dL_say_3 : decode cL_say 3 = .ok (.iload_n 3, 1) := by decide +kernel
theorem dL_say_4 : decode cL_say 4 = .ok (.invokevirtual 72, 3) := by decide +kernel
theorem dL_say_7 : decode cL_say 7 = .ok (.ireturn, 1) := by decide +kernel
theorem dL_say_8 : decode cL_say 8 = .ok (.astore 4, 2) := by decide +kernel
theorem dL_say_10 : decode cL_say 10 = .ok (.iconst (-1), 1) := by decide +kernel
theorem dL_say_11 : decode cL_say 11 = .ok (.ireturn, 1) := by decide +kernel
theorem dL_say_12 : decode cL_say 12 = .ok (.astore 4, 2) := by decide +kernel
theorem dL_say_14 : decode cL_say 14 = .ok (.bipush (-2), 2) := by decide +kernel
theorem dL_say_16 : decode cL_say 16 = .ok (.ireturn, 1) := by decide +kernel
theorem dL_say_17 : decode cL_say 17 = .ok (.astore 4, 2) := by decide +kernel
theorem dL_say_19 : decode cL_say 19 = .ok (.bipush (-3), 2) := by decide +kernel
theorem dL_say_21 : decode cL_say 21 = .ok (.ireturn, 1) := by decide +kernel
theorem dL_forget_0 : decode cL_forget 0 = .ok (.aload_n 0, 1) := by decide +kernel
theorem dL_forget_1 : decode cL_forget 1 = .ok (.iload_n 1, 1) := by decide +kernel
theorem dL_forget_2 : decode cL_forget 2 = .ok (.invokevirtual 75, 3) := by decide +kernel
theorem dL_forget_5 : decode cL_forget 5 = .ok (.ireturn, 1) := by decide +kernel
theorem dL_forget_6 : decode cL_forget 6 = .ok (.astore_n 2, 1) := by decide +kernel
theorem dL_forget_7 : decode cL_forget 7 = .ok (.iconst (-1), 1) := by decide +kernel
theorem dL_forget_8 : decode cL_forget 8 = .ok (.ireturn, 1) := by decide +kernel
theorem dL_forget_9 : decode cL_forget 9 = .ok (.astore_n 2, 1) := by decide +kernel
theorem dL_forget_10 : decode cL_forget 10 = .ok (.bipush (-2), 2) := by decide +kernel
theorem dL_forget_12 : decode cL_forget 12 = .ok (.ireturn, 1) := by decide +kernel
theorem dL_messageAt_0 : decode cL_messageAt 0 = .ok (.aload_n 0, 1) := by decide +kernel
theorem dL_messageAt_1 : decode cL_messageAt 1 = .ok (.iload_n 1, 1) := by decide +kernel
theorem dL_messageAt_2 : decode cL_messageAt 2 = .ok (.invokevirtual 78, 3) := by decide +kernel
theorem dL_messageAt_5 : decode cL_messageAt 5 = .ok (.ireturn, 1) := by decide +kernel
theorem dL_messageAt_6 : decode cL_messageAt 6 = .ok (.astore_n 2, 1) := by decide +kernel
theorem dL_messageAt_7 : decode cL_messageAt 7 = .ok (.bipush (-11), 2) := by decide +kernel
theorem dL_messageAt_9 : decode cL_messageAt 9 = .ok (.ireturn, 1) := by decide +kernel
theorem dL_sender_0 : decode cL_sender 0 = .ok (.aload_n 0, 1) := by decide +kernel
theorem dL_sender_1 : decode cL_sender 1 = .ok (.iload_n 1, 1) := by decide +kernel
theorem dL_sender_2 : decode cL_sender 2 = .ok (.invokevirtual 81, 3) := by decide +kernel
theorem dL_sender_5 : decode cL_sender 5 = .ok (.ireturn, 1) := by decide +kernel
theorem dL_sender_6 : decode cL_sender 6 = .ok (.astore_n 2, 1) := by decide +kernel
theorem dL_sender_7 : decode cL_sender 7 = .ok (.bipush (-13), 2) := by decide +kernel
theorem dL_sender_9 : decode cL_sender 9 = .ok (.ireturn, 1) := by decide +kernel
theorem dL_receiver_0 : decode cL_receiver 0 = .ok (.aload_n 0, 1) := by decide +kernel
theorem dL_receiver_1 : decode cL_receiver 1 = .ok (.iload_n 1, 1) := by decide +kernel
theorem dL_receiver_2 : decode cL_receiver 2 = .ok (.invokevirtual 84, 3) := by decide +kernel
theorem dL_receiver_5 : decode cL_receiver 5 = .ok (.ireturn, 1) := by decide +kernel
theorem dL_receiver_6 : decode cL_receiver 6 = .ok (.astore_n 2, 1) := by decide +kernel
theorem dL_receiver_7 : decode cL_receiver 7 = .ok (.bipush (-13), 2) := by decide +kernel
theorem dL_receiver_9 : decode cL_receiver 9 = .ok (.ireturn, 1) := by decide +kernel
theorem dL_state_0 : decode cL_state 0 = .ok (.aload_n 0, 1) := by decide +kernel
theorem dL_state_1 : decode cL_state 1 = .ok (.iload_n 1, 1) := by decide +kernel
theorem dL_state_2 : decode cL_state 2 = .ok (.invokevirtual 87, 3) := by decide +kernel
theorem dL_state_5 : decode cL_state 5 = .ok (.ireturn, 1) := by decide +kernel
theorem dL_state_6 : decode cL_state 6 = .ok (.astore_n 2, 1) := by decide +kernel
theorem dL_state_7 : decode cL_state 7 = .ok (.bipush (-13), 2) := by decide +kernel
theorem dL_state_9 : decode cL_state 9 = .ok (.ireturn, 1) := by decide +kernel
theorem dL_timesLost_0 : decode cL_timesLost 0 = .ok (.aload_n 0, 1) := by decide +kernel
theorem dL_timesLost_1 : decode cL_timesLost 1 = .ok (.iload_n 1, 1) := by decide +kernel
theorem dL_timesLost_2 : decode cL_timesLost 2 = .ok (.invokevirtual 91, 3) := by decide +kernel
theorem dL_timesLost_5 : decode cL_timesLost 5 = .ok (.ireturn, 1) := by decide +kernel
theorem dL_timesLost_6 : decode cL_timesLost 6 = .ok (.astore_n 2, 1) := by decide +kernel
theorem dL_timesLost_7 : decode cL_timesLost 7 = .ok (.bipush (-13), 2) := by decide +kernel
theorem dL_timesLost_9 : decode cL_timesLost 9 = .ok (.ireturn, 1) := by decide +kernel
theorem dL_beats_0 : decode cL_beats 0 = .ok (.aload_n 0, 1) := by decide +kernel
theorem dL_beats_1 : decode cL_beats 1 = .ok (.iload_n 1, 1) := by decide +kernel
theorem dL_beats_2 : decode cL_beats 2 = .ok (.invokevirtual 94, 3) := by decide +kernel
theorem dL_beats_5 : decode cL_beats 5 = .ok (.ireturn, 1) := by decide +kernel
theorem dL_beats_6 : decode cL_beats 6 = .ok (.astore_n 2, 1) := by decide +kernel
theorem dL_beats_7 : decode cL_beats 7 = .ok (.bipush (-13), 2) := by decide +kernel
theorem dL_beats_9 : decode cL_beats 9 = .ok (.ireturn, 1) := by decide +kernel
theorem dL_isThump_0 : decode cL_isThump 0 = .ok (.aload_n 0, 1) := by decide +kernel
theorem dL_isThump_1 : decode cL_isThump 1 = .ok (.iload_n 1, 1) := by decide +kernel
theorem dL_isThump_2 : decode cL_isThump 2 = .ok (.iload_n 2, 1) := by decide +kernel
theorem dL_isThump_3 : decode cL_isThump 3 = .ok (.invokevirtual 97, 3) := by decide +kernel
theorem dL_isThump_6 : decode cL_isThump 6 = .ok (.ifCond .eq 7, 3) := by decide +kernel
theorem dL_isThump_9 : decode cL_isThump 9 = .ok (.iconst 1, 1) := by decide +kernel
theorem dL_isThump_10 : decode cL_isThump 10 = .ok (.goto 4, 3) := by decide +kernel
theorem dL_isThump_13 : decode cL_isThump 13 = .ok (.iconst 0, 1) := by decide +kernel
theorem dL_isThump_14 : decode cL_isThump 14 = .ok (.ireturn, 1) := by decide +kernel
theorem dL_isThump_15 : decode cL_isThump 15 = .ok (.astore_n 3, 1) := by decide +kernel
theorem dL_isThump_16 : decode cL_isThump 16 = .ok (.bipush (-12), 2) := by decide +kernel
theorem dL_isThump_18 : decode cL_isThump 18 = .ok (.ireturn, 1) := by decide +kernel
theorem dL_isThump_19 : decode cL_isThump 19 = .ok (.astore_n 3, 1) := by decide +kernel
theorem dL_isThump_20 : decode cL_isThump 20 = .ok (.bipush (-11), 2) := by decide +kernel
theorem dL_isThump_22 : decode cL_isThump 22 = .ok (.ireturn, 1) := by decide +kernel
theorem dL_decode_0 : decode cL_decode 0 = .ok (.aload_n 0, 1) := by decide +kernel
theorem dL_decode_1 : decode cL_decode 1 = .ok (.iload_n 1, 1) := by decide +kernel
theorem dL_decode_2 : decode cL_decode 2 = .ok (.invokevirtual 101, 3) := by decide +kernel
theorem dL_decode_5 : decode cL_decode 5 = .ok (.ireturn, 1) := by decide +kernel
theorem dL_decode_6 : decode cL_decode 6 = .ok (.astore_n 2, 1) := by decide +kernel
theorem dL_decode_7 : decode cL_decode 7 = .ok (.bipush (-12), 2) := by decide +kernel
theorem dL_decode_9 : decode cL_decode 9 = .ok (.ireturn, 1) := by decide +kernel
theorem dL_decode_10 : decode cL_decode 10 = .ok (.astore_n 2, 1) := by decide +kernel
theorem dL_decode_11 : decode cL_decode 11 = .ok (.bipush (-13), 2) := by decide +kernel
theorem dL_decode_13 : decode cL_decode 13 = .ok (.ireturn, 1) := by decide +kernel
theorem dL_until_0 : decode cL_until 0 = .ok (.aload_n 0, 1) := by decide +kernel
theorem dL_until_1 : decode cL_until 1 = .ok (.iload_n 1, 1) := by decide +kernel
theorem dL_until_2 : decode cL_until 2 = .ok (.invokevirtual 104, 3) := by decide +kernel
theorem dL_until_5 : decode cL_until 5 = .ok (.ireturn, 1) := by decide +kernel
theorem dL_until_6 : decode cL_until 6 = .ok (.astore_n 2, 1) := by decide +kernel
theorem dL_until_7 : decode cL_until 7 = .ok (.bipush (-13), 2) := by decide +kernel
theorem dL_until_9 : decode cL_until 9 = .ok (.ireturn, 1) := by decide +kernel
theorem dL_until_10 : decode cL_until 10 = .ok (.astore_n 2, 1) := by decide +kernel
theorem dL_until_11 : decode cL_until 11 = .ok (.bipush (-14), 2) := by decide +kernel
theorem dL_until_13 : decode cL_until 13 = .ok (.ireturn, 1) := by decide +kernel
theorem dL_until_14 : decode cL_until 14 = .ok (.astore_n 2, 1) := by decide +kernel
theorem dL_until_15 : decode cL_until 15 = .ok (.bipush (-15), 2) := by decide +kernel
theorem dL_until_17 : decode cL_until 17 = .ok (.ireturn, 1) := by decide +kernel
theorem dL_pass_0 : decode cL_pass 0 = .ok (.aload_n 0, 1) := by decide +kernel
theorem dL_pass_1 : decode cL_pass 1 = .ok (.iload_n 1, 1) := by decide +kernel
theorem dL_pass_2 : decode cL_pass 2 = .ok (.invokevirtual 109, 3) := by decide +kernel
theorem dL_pass_5 : decode cL_pass 5 = .ok (.ireturn, 1) := by decide +kernel
theorem dL_pass_6 : decode cL_pass 6 = .ok (.astore_n 2, 1) := by decide +kernel
theorem dL_pass_7 : decode cL_pass 7 = .ok (.iconst (-1), 1) := by decide +kernel
theorem dL_pass_8 : decode cL_pass 8 = .ok (.ireturn, 1) := by decide +kernel
theorem dL_writeMessage_0 : decode cL_writeMessage 0 = .ok (.aload_n 0, 1) := by decide +kernel
theorem dL_writeMessage_1 : decode cL_writeMessage 1 = .ok (.iload_n 1, 1) := by decide +kernel
theorem dL_writeMessage_2 : decode cL_writeMessage 2 = .ok (.invokevirtual 115, 3) := by decide +kernel
theorem dL_writeMessage_5 : decode cL_writeMessage 5 = .ok (.ireturn, 1) := by decide +kernel
theorem dL_writeMessage_6 : decode cL_writeMessage 6 = .ok (.astore_n 2, 1) := by decide +kernel
theorem dL_writeMessage_7 : decode cL_writeMessage 7 = .ok (.bipush (-13), 2) := by decide +kernel
theorem dL_writeMessage_9 : decode cL_writeMessage 9 = .ok (.ireturn, 1) := by decide +kernel
theorem dL_writeCode_0 : decode cL_writeCode 0 = .ok (.aload_n 0, 1) := by decide +kernel
theorem dL_writeCode_1 : decode cL_writeCode 1 = .ok (.iload_n 1, 1) := by decide +kernel
theorem dL_writeCode_2 : decode cL_writeCode 2 = .ok (.invokevirtual 118, 3) := by decide +kernel
theorem dL_writeCode_5 : decode cL_writeCode 5 = .ok (.ireturn, 1) := by decide +kernel
theorem dL_writeCode_6 : decode cL_writeCode 6 = .ok (.astore_n 2, 1) := by decide +kernel
theorem dL_writeCode_7 : decode cL_writeCode 7 = .ok (.bipush (-12), 2) := by decide +kernel
theorem dL_writeCode_9 : decode cL_writeCode 9 = .ok (.ireturn, 1) := by decide +kernel
theorem dL_outputAt_0 : decode cL_outputAt 0 = .ok (.aload_n 0, 1) := by decide +kernel
theorem dL_outputAt_1 : decode cL_outputAt 1 = .ok (.iload_n 1, 1) := by decide +kernel
theorem dL_outputAt_2 : decode cL_outputAt 2 = .ok (.invokevirtual 121, 3) := by decide +kernel
theorem dL_outputAt_5 : decode cL_outputAt 5 = .ok (.ireturn, 1) := by decide +kernel
theorem dL_outputAt_6 : decode cL_outputAt 6 = .ok (.astore_n 2, 1) := by decide +kernel
theorem dL_outputAt_7 : decode cL_outputAt 7 = .ok (.bipush (-11), 2) := by decide +kernel
theorem dL_outputAt_9 : decode cL_outputAt 9 = .ok (.ireturn, 1) := by decide +kernel
theorem dL_feed_0 : decode cL_feed 0 = .ok (.aload_n 0, 1) := by decide +kernel
theorem dL_feed_1 : decode cL_feed 1 = .ok (.iload_n 1, 1) := by decide +kernel
theorem dL_feed_2 : decode cL_feed 2 = .ok (.invokevirtual 124, 3) := by decide +kernel
theorem dL_feed_5 : decode cL_feed 5 = .ok (.ireturn, 1) := by decide +kernel
theorem dL_feed_6 : decode cL_feed 6 = .ok (.astore_n 2, 1) := by decide +kernel
theorem dL_feed_7 : decode cL_feed 7 = .ok (.bipush (-14), 2) := by decide +kernel
theorem dL_feed_9 : decode cL_feed 9 = .ok (.ireturn, 1) := by decide +kernel
theorem dL_executes_0 : decode cL_executes 0 = .ok (.aload_n 0, 1) := by decide +kernel
theorem dL_executes_1 : decode cL_executes 1 = .ok (.invokevirtual 128, 3) := by decide +kernel
theorem dL_executes_4 : decode cL_executes 4 = .ok (.ireturn, 1) := by decide +kernel
theorem dL_executes_5 : decode cL_executes 5 = .ok (.astore_n 1, 1) := by decide +kernel
theorem dL_executes_6 : decode cL_executes 6 = .ok (.iconst (-1), 1) := by decide +kernel
theorem dL_executes_7 : decode cL_executes 7 = .ok (.ireturn, 1) := by decide +kernel
theorem dL_executes_8 : decode cL_executes 8 = .ok (.astore_n 1, 1) := by decide +kernel
theorem dL_executes_9 : decode cL_executes 9 = .ok (.bipush (-2), 2) := by decide +kernel
theorem dL_executes_11 : decode cL_executes 11 = .ok (.ireturn, 1) := by decide +kernel
theorem dL_undo_0 : decode cL_undo 0 = .ok (.aload_n 0, 1) := by decide +kernel
theorem dL_undo_1 : decode cL_undo 1 = .ok (.invokevirtual 137, 3) := by decide +kernel
theorem dL_undo_4 : decode cL_undo 4 = .ok (.ireturn, 1) := by decide +kernel
theorem dL_undo_5 : decode cL_undo 5 = .ok (.astore_n 1, 1) := by decide +kernel
theorem dL_undo_6 : decode cL_undo 6 = .ok (.iconst (-1), 1) := by decide +kernel
theorem dL_undo_7 : decode cL_undo 7 = .ok (.ireturn, 1) := by decide +kernel
