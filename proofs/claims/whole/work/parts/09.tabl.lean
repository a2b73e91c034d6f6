theorem ob_Ccm : xOb false 0 1 RX0 TX0 5 := ⟨by decide, rfl, rfl, rfl, rfl⟩
theorem fd_Ccm_plain : xFd false 0 0 2 11 1 RX0 TX0 5 := ⟨by decide, rfl, rfl, rfl, by decide, rfl, rfl⟩
theorem fd_Ccm_mac : xFd false 0 1 2 12 1 RX0 TX0 5 := ⟨by decide, rfl, rfl, rfl, by decide, rfl, rfl⟩
theorem fd_Ccm_stream : xFd false 0 2 2 13 1 RX0 TX0 5 := ⟨by decide, rfl, rfl, rfl, by decide, rfl, rfl⟩
theorem fd_Ccm_turned : xFd false 0 3 2 14 1 RX0 TX0 5 := ⟨by decide, rfl, rfl, rfl, by decide, rfl, rfl⟩
theorem fd_Ccm_roundKeys : xFd false 0 4 2 15 1 RX0 TX0 5 := ⟨by decide, rfl, rfl, rfl, by decide, rfl, rfl⟩
theorem ob_Draws : xOb false 1 1 RX1 TX1 3 := ⟨by decide, rfl, rfl, rfl, rfl⟩
theorem fd_Draws_values : xFd false 1 0 2 16 1 RX1 TX1 3 := ⟨by decide, rfl, rfl, rfl, by decide, rfl, rfl⟩
theorem fd_Draws_first : xFd false 1 1 0 59 1 RX1 TX1 3 := ⟨by decide, rfl, rfl, rfl, by decide, rfl, rfl⟩
theorem fd_Draws_left : xFd false 1 2 0 60 1 RX1 TX1 3 := ⟨by decide, rfl, rfl, rfl, by decide, rfl, rfl⟩
theorem ob_Inbox : xOb false 2 9 RX3 TX3 4 := ⟨by decide, rfl, rfl, rfl, rfl⟩
theorem fd_Inbox_said : xFd false 2 0 2 17 9 RX3 TX3 4 := ⟨by decide, rfl, rfl, rfl, by decide, rfl, rfl⟩
theorem fd_Inbox_lengths : xFd false 2 1 2 19 9 RX3 TX3 4 := ⟨by decide, rfl, rfl, rfl, by decide, rfl, rfl⟩
theorem fd_Inbox_speakers : xFd false 2 2 2 20 9 RX3 TX3 4 := ⟨by decide, rfl, rfl, rfl, by decide, rfl, rfl⟩
theorem fd_Inbox_delivered : xFd false 2 3 0 61 9 RX3 TX3 4 := ⟨by decide, rfl, rfl, rfl, by decide, rfl, rfl⟩
theorem ob_Link : xOb false 3 18 RX4 TX4 14 := ⟨by decide, rfl, rfl, rfl, rfl⟩
theorem fd_Link_state : xFd false 3 0 0 62 18 RX4 TX4 14 := ⟨by decide, rfl, rfl, rfl, by decide, rfl, rfl⟩
theorem fd_Link_asked : xFd false 3 1 0 63 18 RX4 TX4 14 := ⟨by decide, rfl, rfl, rfl, by decide, rfl, rfl⟩
theorem fd_Link_secret : xFd false 3 2 2 21 18 RX4 TX4 14 := ⟨by decide, rfl, rfl, rfl, by decide, rfl, rfl⟩
theorem fd_Link_hasTried : xFd false 3 3 0 64 18 RX4 TX4 14 := ⟨by decide, rfl, rfl, rfl, by decide, rfl, rfl⟩
theorem fd_Link_tried : xFd false 3 4 2 22 18 RX4 TX4 14 := ⟨by decide, rfl, rfl, rfl, by decide, rfl, rfl⟩
theorem fd_Link_triedNonce : xFd false 3 5 2 23 18 RX4 TX4 14 := ⟨by decide, rfl, rfl, rfl, by decide, rfl, rfl⟩
theorem fd_Link_tk : xFd false 3 6 2 24 18 RX4 TX4 14 := ⟨by decide, rfl, rfl, rfl, by decide, rfl, rfl⟩
theorem fd_Link_taken : xFd false 3 7 1 65 18 RX4 TX4 14 := ⟨by decide, rfl, rfl, rfl, by decide, rfl, rfl⟩
theorem fd_Link_nextToSeal : xFd false 3 8 1 66 18 RX4 TX4 14 := ⟨by decide, rfl, rfl, rfl, by decide, rfl, rfl⟩
theorem fd_Link_begun : xFd false 3 9 0 67 18 RX4 TX4 14 := ⟨by decide, rfl, rfl, rfl, by decide, rfl, rfl⟩
theorem fd_Link_sequence : xFd false 3 10 0 68 18 RX4 TX4 14 := ⟨by decide, rfl, rfl, rfl, by decide, rfl, rfl⟩
theorem fd_Link_nextPart : xFd false 3 11 0 69 18 RX4 TX4 14 := ⟨by decide, rfl, rfl, rfl, by decide, rfl, rfl⟩
theorem fd_Link_length : xFd false 3 12 0 70 18 RX4 TX4 14 := ⟨by decide, rfl, rfl, rfl, by decide, rfl, rfl⟩
theorem fd_Link_bytes : xFd false 3 13 2 25 18 RX4 TX4 14 := ⟨by decide, rfl, rfl, rfl, by decide, rfl, rfl⟩
theorem ob_Medium : xOb false 4 1 RX5 TX5 18 := ⟨by decide, rfl, rfl, rfl, rfl⟩
theorem fd_Medium_rows : xFd false 4 0 2 26 1 RX5 TX5 18 := ⟨by decide, rfl, rfl, rfl, by decide, rfl, rfl⟩
theorem fd_Medium_lengths : xFd false 4 1 2 28 1 RX5 TX5 18 := ⟨by decide, rfl, rfl, rfl, by decide, rfl, rfl⟩
theorem fd_Medium_senders : xFd false 4 2 2 29 1 RX5 TX5 18 := ⟨by decide, rfl, rfl, rfl, by decide, rfl, rfl⟩
theorem fd_Medium_firstSlots : xFd false 4 3 2 30 1 RX5 TX5 18 := ⟨by decide, rfl, rfl, rfl, by decide, rfl, rfl⟩
theorem fd_Medium_lastSlots : xFd false 4 4 2 31 1 RX5 TX5 18 := ⟨by decide, rfl, rfl, rfl, by decide, rfl, rfl⟩
theorem fd_Medium_spoiled : xFd false 4 5 2 32 1 RX5 TX5 18 := ⟨by decide, rfl, rfl, rfl, by decide, rfl, rfl⟩
theorem fd_Medium_newest : xFd false 4 6 0 71 1 RX5 TX5 18 := ⟨by decide, rfl, rfl, rfl, by decide, rfl, rfl⟩
theorem fd_Medium_kept : xFd false 4 7 0 72 1 RX5 TX5 18 := ⟨by decide, rfl, rfl, rfl, by decide, rfl, rfl⟩
theorem fd_Medium_began : xFd false 4 8 0 73 1 RX5 TX5 18 := ⟨by decide, rfl, rfl, rfl, by decide, rfl, rfl⟩
theorem fd_Medium_endings : xFd false 4 9 2 33 1 RX5 TX5 18 := ⟨by decide, rfl, rfl, rfl, by decide, rfl, rfl⟩
theorem fd_Medium_onAir : xFd false 4 10 0 74 1 RX5 TX5 18 := ⟨by decide, rfl, rfl, rfl, by decide, rfl, rfl⟩
theorem fd_Medium_notClean : xFd false 4 11 0 75 1 RX5 TX5 18 := ⟨by decide, rfl, rfl, rfl, by decide, rfl, rfl⟩
theorem fd_Medium_slot : xFd false 4 12 0 76 1 RX5 TX5 18 := ⟨by decide, rfl, rfl, rfl, by decide, rfl, rfl⟩
theorem fd_Medium_quietSlots : xFd false 4 13 0 77 1 RX5 TX5 18 := ⟨by decide, rfl, rfl, rfl, by decide, rfl, rfl⟩
theorem fd_Medium_lastBusySlot : xFd false 4 14 0 78 1 RX5 TX5 18 := ⟨by decide, rfl, rfl, rfl, by decide, rfl, rfl⟩
theorem fd_Medium_noiseFrom : xFd false 4 15 2 34 1 RX5 TX5 18 := ⟨by decide, rfl, rfl, rfl, by decide, rfl, rfl⟩
theorem fd_Medium_noiseTo : xFd false 4 16 2 35 1 RX5 TX5 18 := ⟨by decide, rfl, rfl, rfl, by decide, rfl, rfl⟩
theorem fd_Medium_noises : xFd false 4 17 0 79 1 RX5 TX5 18 := ⟨by decide, rfl, rfl, rfl, by decide, rfl, rfl⟩
theorem ob_Message : xOb false 5 108 RX6 TX6 9 := ⟨by decide, rfl, rfl, rfl, rfl⟩
theorem fd_Message_bytes : xFd false 5 0 2 36 108 RX6 TX6 9 := ⟨by decide, rfl, rfl, rfl, by decide, rfl, rfl⟩
theorem fd_Message_length : xFd false 5 1 0 80 108 RX6 TX6 9 := ⟨by decide, rfl, rfl, rfl, by decide, rfl, rfl⟩
theorem fd_Message_kind : xFd false 5 2 0 81 108 RX6 TX6 9 := ⟨by decide, rfl, rfl, rfl, by decide, rfl, rfl⟩
theorem fd_Message_receiver : xFd false 5 3 0 82 108 RX6 TX6 9 := ⟨by decide, rfl, rfl, rfl, by decide, rfl, rfl⟩
theorem fd_Message_third : xFd false 5 4 0 83 108 RX6 TX6 9 := ⟨by decide, rfl, rfl, rfl, by decide, rfl, rfl⟩
theorem fd_Message_sealed : xFd false 5 5 0 84 108 RX6 TX6 9 := ⟨by decide, rfl, rfl, rfl, by decide, rfl, rfl⟩
theorem fd_Message_cut : xFd false 5 6 0 85 108 RX6 TX6 9 := ⟨by decide, rfl, rfl, rfl, by decide, rfl, rfl⟩
theorem fd_Message_sequence : xFd false 5 7 0 86 108 RX6 TX6 9 := ⟨by decide, rfl, rfl, rfl, by decide, rfl, rfl⟩
theorem fd_Message_submission : xFd false 5 8 0 87 108 RX6 TX6 9 := ⟨by decide, rfl, rfl, rfl, by decide, rfl, rfl⟩
theorem ob_Node : xOb false 6 9 RX7 TX7 19 := ⟨by decide, rfl, rfl, rfl, rfl⟩
theorem fd_Node_number : xFd false 6 0 0 88 9 RX7 TX7 19 := ⟨by decide, rfl, rfl, rfl, by decide, rfl, rfl⟩
theorem fd_Node_nonce : xFd false 6 1 2 37 9 RX7 TX7 19 := ⟨by decide, rfl, rfl, rfl, by decide, rfl, rfl⟩
theorem fd_Node_queue : xFd false 6 2 2 8 9 RX7 TX7 19 := ⟨by decide, rfl, rfl, rfl, by decide, rfl, rfl⟩
theorem fd_Node_inbox : xFd false 6 3 2 2 9 RX7 TX7 19 := ⟨by decide, rfl, rfl, rfl, by decide, rfl, rfl⟩
theorem fd_Node_latest : xFd false 6 4 2 38 9 RX7 TX7 19 := ⟨by decide, rfl, rfl, rfl, by decide, rfl, rfl⟩
theorem fd_Node_droppedAgain : xFd false 6 5 0 89 9 RX7 TX7 19 := ⟨by decide, rfl, rfl, rfl, by decide, rfl, rfl⟩
theorem fd_Node_droppedSealed : xFd false 6 6 0 90 9 RX7 TX7 19 := ⟨by decide, rfl, rfl, rfl, by decide, rfl, rfl⟩
theorem fd_Node_backoff : xFd false 6 7 0 91 9 RX7 TX7 19 := ⟨by decide, rfl, rfl, rfl, by decide, rfl, rfl⟩
theorem fd_Node_cw : xFd false 6 8 0 92 9 RX7 TX7 19 := ⟨by decide, rfl, rfl, rfl, by decide, rfl, rfl⟩
theorem fd_Node_tries : xFd false 6 9 0 93 9 RX7 TX7 19 := ⟨by decide, rfl, rfl, rfl, by decide, rfl, rfl⟩
theorem fd_Node_dueSlot : xFd false 6 10 0 94 9 RX7 TX7 19 := ⟨by decide, rfl, rfl, rfl, by decide, rfl, rfl⟩
theorem fd_Node_dueAck : xFd false 6 11 0 95 9 RX7 TX7 19 := ⟨by decide, rfl, rfl, rfl, by decide, rfl, rfl⟩
theorem fd_Node_ackTo : xFd false 6 12 2 39 9 RX7 TX7 19 := ⟨by decide, rfl, rfl, rfl, by decide, rfl, rfl⟩
theorem fd_Node_lastSendSlot : xFd false 6 13 0 96 9 RX7 TX7 19 := ⟨by decide, rfl, rfl, rfl, by decide, rfl, rfl⟩
theorem fd_Node_sendsAck : xFd false 6 14 0 97 9 RX7 TX7 19 := ⟨by decide, rfl, rfl, rfl, by decide, rfl, rfl⟩
theorem fd_Node_waitsFrom : xFd false 6 15 0 98 9 RX7 TX7 19 := ⟨by decide, rfl, rfl, rfl, by decide, rfl, rfl⟩
theorem fd_Node_part : xFd false 6 16 0 99 9 RX7 TX7 19 := ⟨by decide, rfl, rfl, rfl, by decide, rfl, rfl⟩
theorem fd_Node_frame : xFd false 6 17 2 40 9 RX7 TX7 19 := ⟨by decide, rfl, rfl, rfl, by decide, rfl, rfl⟩
theorem fd_Node_frameLength : xFd false 6 18 0 100 9 RX7 TX7 19 := ⟨by decide, rfl, rfl, rfl, by decide, rfl, rfl⟩
theorem ob_Puts : xOb false 7 1 RX8 TX8 4 := ⟨by decide, rfl, rfl, rfl, rfl⟩
theorem fd_Puts_rows : xFd false 7 0 2 41 1 RX8 TX8 4 := ⟨by decide, rfl, rfl, rfl, by decide, rfl, rfl⟩
theorem fd_Puts_lengths : xFd false 7 1 2 43 1 RX8 TX8 4 := ⟨by decide, rfl, rfl, rfl, by decide, rfl, rfl⟩
theorem fd_Puts_slots : xFd false 7 2 2 44 1 RX8 TX8 4 := ⟨by decide, rfl, rfl, rfl, by decide, rfl, rfl⟩
theorem fd_Puts_used : xFd false 7 3 0 101 1 RX8 TX8 4 := ⟨by decide, rfl, rfl, rfl, by decide, rfl, rfl⟩
theorem ob_Queue : xOb false 8 9 RX9 TX9 4 := ⟨by decide, rfl, rfl, rfl, rfl⟩
theorem fd_Queue_rows : xFd false 8 0 2 45 9 RX9 TX9 4 := ⟨by decide, rfl, rfl, rfl, by decide, rfl, rfl⟩
theorem fd_Queue_firstRow : xFd false 8 1 0 102 9 RX9 TX9 4 := ⟨by decide, rfl, rfl, rfl, by decide, rfl, rfl⟩
theorem fd_Queue_used : xFd false 8 2 0 103 9 RX9 TX9 4 := ⟨by decide, rfl, rfl, rfl, by decide, rfl, rfl⟩
theorem fd_Queue_nextSequence : xFd false 8 3 0 104 9 RX9 TX9 4 := ⟨by decide, rfl, rfl, rfl, by decide, rfl, rfl⟩
theorem ob_Sha : xOb false 9 1 RX10 TX10 6 := ⟨by decide, rfl, rfl, rfl, rfl⟩
theorem fd_Sha_digest : xFd false 9 0 2 46 1 RX10 TX10 6 := ⟨by decide, rfl, rfl, rfl, by decide, rfl, rfl⟩
theorem fd_Sha_ptk : xFd false 9 1 2 47 1 RX10 TX10 6 := ⟨by decide, rfl, rfl, rfl, by decide, rfl, rfl⟩
theorem fd_Sha_seed : xFd false 9 2 2 48 1 RX10 TX10 6 := ⟨by decide, rfl, rfl, rfl, by decide, rfl, rfl⟩
theorem fd_Sha_text : xFd false 9 3 2 49 1 RX10 TX10 6 := ⟨by decide, rfl, rfl, rfl, by decide, rfl, rfl⟩
theorem fd_Sha_words : xFd false 9 4 2 50 1 RX10 TX10 6 := ⟨by decide, rfl, rfl, rfl, by decide, rfl, rfl⟩
theorem fd_Sha_state : xFd false 9 5 2 51 1 RX10 TX10 6 := ⟨by decide, rfl, rfl, rfl, by decide, rfl, rfl⟩
theorem ob_Cell : xOb false 10 1 RX11 TX11 17 := ⟨by decide, rfl, rfl, rfl, rfl⟩
theorem fd_Cell_nodes : xFd false 10 0 2 52 1 RX11 TX11 17 := ⟨by decide, rfl, rfl, rfl, by decide, rfl, rfl⟩
theorem fd_Cell_bySelf : xFd false 10 1 2 53 1 RX11 TX11 17 := ⟨by decide, rfl, rfl, rfl, by decide, rfl, rfl⟩
theorem fd_Cell_byAp : xFd false 10 2 2 54 1 RX11 TX11 17 := ⟨by decide, rfl, rfl, rfl, by decide, rfl, rfl⟩
theorem fd_Cell_medium : xFd false 10 3 2 4 1 RX11 TX11 17 := ⟨by decide, rfl, rfl, rfl, by decide, rfl, rfl⟩
theorem fd_Cell_puts : xFd false 10 4 2 7 1 RX11 TX11 17 := ⟨by decide, rfl, rfl, rfl, by decide, rfl, rfl⟩
theorem fd_Cell_draws : xFd false 10 5 2 1 1 RX11 TX11 17 := ⟨by decide, rfl, rfl, rfl, by decide, rfl, rfl⟩
theorem fd_Cell_sha : xFd false 10 6 2 9 1 RX11 TX11 17 := ⟨by decide, rfl, rfl, rfl, by decide, rfl, rfl⟩
theorem fd_Cell_ccm : xFd false 10 7 2 0 1 RX11 TX11 17 := ⟨by decide, rfl, rfl, rfl, by decide, rfl, rfl⟩
theorem fd_Cell_tape : xFd false 10 8 2 55 1 RX11 TX11 17 := ⟨by decide, rfl, rfl, rfl, by decide, rfl, rfl⟩
theorem fd_Cell_tapeLength : xFd false 10 9 0 105 1 RX11 TX11 17 := ⟨by decide, rfl, rfl, rfl, by decide, rfl, rfl⟩
theorem fd_Cell_ends : xFd false 10 10 2 56 1 RX11 TX11 17 := ⟨by decide, rfl, rfl, rfl, by decide, rfl, rfl⟩
theorem fd_Cell_submissions : xFd false 10 11 0 106 1 RX11 TX11 17 := ⟨by decide, rfl, rfl, rfl, by decide, rfl, rfl⟩
theorem fd_Cell_partSize : xFd false 10 12 0 107 1 RX11 TX11 17 := ⟨by decide, rfl, rfl, rfl, by decide, rfl, rfl⟩
theorem fd_Cell_tryLimit : xFd false 10 13 0 108 1 RX11 TX11 17 := ⟨by decide, rfl, rfl, rfl, by decide, rfl, rfl⟩
theorem fd_Cell_failures : xFd false 10 14 0 109 1 RX11 TX11 17 := ⟨by decide, rfl, rfl, rfl, by decide, rfl, rfl⟩
theorem fd_Cell_ackFrame : xFd false 10 15 2 57 1 RX11 TX11 17 := ⟨by decide, rfl, rfl, rfl, by decide, rfl, rfl⟩
theorem fd_Cell_bodyAsTold : xFd false 10 16 2 58 1 RX11 TX11 17 := ⟨by decide, rfl, rfl, rfl, by decide, rfl, rfl⟩
theorem ob_Model : xOb true 200 1 RX12 TX12 107 := ⟨by decide, rfl, rfl, rfl, rfl⟩
theorem fd_Model_thrown : xFd true 200 0 0 288 1 RX12 TX12 107 := ⟨by decide, rfl, rfl, rfl, by decide, rfl, rfl⟩
theorem fd_Model_h : xFd true 200 1 2 201 1 RX12 TX12 107 := ⟨by decide, rfl, rfl, rfl, by decide, rfl, rfl⟩
theorem fd_Model_w : xFd true 200 2 2 202 1 RX12 TX12 107 := ⟨by decide, rfl, rfl, rfl, by decide, rfl, rfl⟩
theorem fd_Model_block : xFd true 200 3 2 203 1 RX12 TX12 107 := ⟨by decide, rfl, rfl, rfl, by decide, rfl, rfl⟩
theorem fd_Model_filled : xFd true 200 4 0 289 1 RX12 TX12 107 := ⟨by decide, rfl, rfl, rfl, by decide, rfl, rfl⟩
theorem fd_Model_hashed : xFd true 200 5 1 290 1 RX12 TX12 107 := ⟨by decide, rfl, rfl, rfl, by decide, rfl, rfl⟩
theorem fd_Model_digest : xFd true 200 6 2 204 1 RX12 TX12 107 := ⟨by decide, rfl, rfl, rfl, by decide, rfl, rfl⟩
theorem fd_Model_macKey : xFd true 200 7 2 205 1 RX12 TX12 107 := ⟨by decide, rfl, rfl, rfl, by decide, rfl, rfl⟩
theorem fd_Model_inner : xFd true 200 8 2 206 1 RX12 TX12 107 := ⟨by decide, rfl, rfl, rfl, by decide, rfl, rfl⟩
theorem fd_Model_box : xFd true 200 9 2 207 1 RX12 TX12 107 := ⟨by decide, rfl, rfl, rfl, by decide, rfl, rfl⟩
theorem fd_Model_schedule : xFd true 200 10 2 208 1 RX12 TX12 107 := ⟨by decide, rfl, rfl, rfl, by decide, rfl, rfl⟩
theorem fd_Model_cells : xFd true 200 11 2 209 1 RX12 TX12 107 := ⟨by decide, rfl, rfl, rfl, by decide, rfl, rfl⟩
theorem fd_Model_moved : xFd true 200 12 2 210 1 RX12 TX12 107 := ⟨by decide, rfl, rfl, rfl, by decide, rfl, rfl⟩
theorem fd_Model_number : xFd true 200 13 2 211 1 RX12 TX12 107 := ⟨by decide, rfl, rfl, rfl, by decide, rfl, rfl⟩
theorem fd_Model_chain : xFd true 200 14 2 212 1 RX12 TX12 107 := ⟨by decide, rfl, rfl, rfl, by decide, rfl, rfl⟩
theorem fd_Model_stream : xFd true 200 15 2 213 1 RX12 TX12 107 := ⟨by decide, rfl, rfl, rfl, by decide, rfl, rfl⟩
theorem fd_Model_tag : xFd true 200 16 2 214 1 RX12 TX12 107 := ⟨by decide, rfl, rfl, rfl, by decide, rfl, rfl⟩
theorem fd_Model_tape : xFd true 200 17 2 215 1 RX12 TX12 107 := ⟨by decide, rfl, rfl, rfl, by decide, rfl, rfl⟩
theorem fd_Model_taped : xFd true 200 18 0 291 1 RX12 TX12 107 := ⟨by decide, rfl, rfl, rfl, by decide, rfl, rfl⟩
theorem fd_Model_secrets : xFd true 200 19 2 216 1 RX12 TX12 107 := ⟨by decide, rfl, rfl, rfl, by decide, rfl, rfl⟩
theorem fd_Model_nonces : xFd true 200 20 2 217 1 RX12 TX12 107 := ⟨by decide, rfl, rfl, rfl, by decide, rfl, rfl⟩
theorem fd_Model_state : xFd true 200 21 2 218 1 RX12 TX12 107 := ⟨by decide, rfl, rfl, rfl, by decide, rfl, rfl⟩
theorem fd_Model_asState : xFd true 200 22 2 219 1 RX12 TX12 107 := ⟨by decide, rfl, rfl, rfl, by decide, rfl, rfl⟩
theorem fd_Model_asked : xFd true 200 23 2 220 1 RX12 TX12 107 := ⟨by decide, rfl, rfl, rfl, by decide, rfl, rfl⟩
theorem fd_Model_tk : xFd true 200 24 2 221 1 RX12 TX12 107 := ⟨by decide, rfl, rfl, rfl, by decide, rfl, rfl⟩
theorem fd_Model_hasKey : xFd true 200 25 2 222 1 RX12 TX12 107 := ⟨by decide, rfl, rfl, rfl, by decide, rfl, rfl⟩
theorem fd_Model_tried : xFd true 200 26 2 223 1 RX12 TX12 107 := ⟨by decide, rfl, rfl, rfl, by decide, rfl, rfl⟩
theorem fd_Model_hasTried : xFd true 200 27 2 224 1 RX12 TX12 107 := ⟨by decide, rfl, rfl, rfl, by decide, rfl, rfl⟩
theorem fd_Model_triedNonce : xFd true 200 28 2 225 1 RX12 TX12 107 := ⟨by decide, rfl, rfl, rfl, by decide, rfl, rfl⟩
theorem fd_Model_pnTaken : xFd true 200 29 2 226 1 RX12 TX12 107 := ⟨by decide, rfl, rfl, rfl, by decide, rfl, rfl⟩
theorem fd_Model_pnNext : xFd true 200 30 2 227 1 RX12 TX12 107 := ⟨by decide, rfl, rfl, rfl, by decide, rfl, rfl⟩
theorem fd_Model_begun : xFd true 200 31 2 228 1 RX12 TX12 107 := ⟨by decide, rfl, rfl, rfl, by decide, rfl, rfl⟩
theorem fd_Model_begunSeq : xFd true 200 32 2 229 1 RX12 TX12 107 := ⟨by decide, rfl, rfl, rfl, by decide, rfl, rfl⟩
theorem fd_Model_begunNext : xFd true 200 33 2 230 1 RX12 TX12 107 := ⟨by decide, rfl, rfl, rfl, by decide, rfl, rfl⟩
theorem fd_Model_begunLen : xFd true 200 34 2 231 1 RX12 TX12 107 := ⟨by decide, rfl, rfl, rfl, by decide, rfl, rfl⟩
theorem fd_Model_begunBytes : xFd true 200 35 2 232 1 RX12 TX12 107 := ⟨by decide, rfl, rfl, rfl, by decide, rfl, rfl⟩
theorem fd_Model_fresh : xFd true 200 36 2 233 1 RX12 TX12 107 := ⟨by decide, rfl, rfl, rfl, by decide, rfl, rfl⟩
theorem fd_Model_qMany : xFd true 200 37 2 234 1 RX12 TX12 107 := ⟨by decide, rfl, rfl, rfl, by decide, rfl, rfl⟩
theorem fd_Model_qType : xFd true 200 38 2 235 1 RX12 TX12 107 := ⟨by decide, rfl, rfl, rfl, by decide, rfl, rfl⟩
theorem fd_Model_qTo : xFd true 200 39 2 236 1 RX12 TX12 107 := ⟨by decide, rfl, rfl, rfl, by decide, rfl, rfl⟩
theorem fd_Model_qThird : xFd true 200 40 2 237 1 RX12 TX12 107 := ⟨by decide, rfl, rfl, rfl, by decide, rfl, rfl⟩
theorem fd_Model_qSeq : xFd true 200 41 2 238 1 RX12 TX12 107 := ⟨by decide, rfl, rfl, rfl, by decide, rfl, rfl⟩
theorem fd_Model_qSize : xFd true 200 42 2 239 1 RX12 TX12 107 := ⟨by decide, rfl, rfl, rfl, by decide, rfl, rfl⟩
theorem fd_Model_qLen : xFd true 200 43 2 240 1 RX12 TX12 107 := ⟨by decide, rfl, rfl, rfl, by decide, rfl, rfl⟩
theorem fd_Model_qSub : xFd true 200 44 2 241 1 RX12 TX12 107 := ⟨by decide, rfl, rfl, rfl, by decide, rfl, rfl⟩
theorem fd_Model_qBytes : xFd true 200 45 2 242 1 RX12 TX12 107 := ⟨by decide, rfl, rfl, rfl, by decide, rfl, rfl⟩
theorem fd_Model_part : xFd true 200 46 2 243 1 RX12 TX12 107 := ⟨by decide, rfl, rfl, rfl, by decide, rfl, rfl⟩
theorem fd_Model_isMade : xFd true 200 47 2 244 1 RX12 TX12 107 := ⟨by decide, rfl, rfl, rfl, by decide, rfl, rfl⟩
theorem fd_Model_frames : xFd true 200 48 2 245 1 RX12 TX12 107 := ⟨by decide, rfl, rfl, rfl, by decide, rfl, rfl⟩
theorem fd_Model_frameLen : xFd true 200 49 2 246 1 RX12 TX12 107 := ⟨by decide, rfl, rfl, rfl, by decide, rfl, rfl⟩
theorem fd_Model_seq : xFd true 200 50 2 247 1 RX12 TX12 107 := ⟨by decide, rfl, rfl, rfl, by decide, rfl, rfl⟩
theorem fd_Model_backoff : xFd true 200 51 2 248 1 RX12 TX12 107 := ⟨by decide, rfl, rfl, rfl, by decide, rfl, rfl⟩
theorem fd_Model_cw : xFd true 200 52 2 249 1 RX12 TX12 107 := ⟨by decide, rfl, rfl, rfl, by decide, rfl, rfl⟩
theorem fd_Model_tries : xFd true 200 53 2 250 1 RX12 TX12 107 := ⟨by decide, rfl, rfl, rfl, by decide, rfl, rfl⟩
theorem fd_Model_sizeNow : xFd true 200 54 0 292 1 RX12 TX12 107 := ⟨by decide, rfl, rfl, rfl, by decide, rfl, rfl⟩
theorem fd_Model_limit : xFd true 200 55 0 293 1 RX12 TX12 107 := ⟨by decide, rfl, rfl, rfl, by decide, rfl, rfl⟩
theorem fd_Model_draws : xFd true 200 56 2 251 1 RX12 TX12 107 := ⟨by decide, rfl, rfl, rfl, by decide, rfl, rfl⟩
theorem fd_Model_drawFrom : xFd true 200 57 0 294 1 RX12 TX12 107 := ⟨by decide, rfl, rfl, rfl, by decide, rfl, rfl⟩
theorem fd_Model_drawTo : xFd true 200 58 0 295 1 RX12 TX12 107 := ⟨by decide, rfl, rfl, rfl, by decide, rfl, rfl⟩
theorem fd_Model_ends : xFd true 200 59 2 252 1 RX12 TX12 107 := ⟨by decide, rfl, rfl, rfl, by decide, rfl, rfl⟩
theorem fd_Model_submissions : xFd true 200 60 0 296 1 RX12 TX12 107 := ⟨by decide, rfl, rfl, rfl, by decide, rfl, rfl⟩
theorem fd_Model_message : xFd true 200 61 2 253 1 RX12 TX12 107 := ⟨by decide, rfl, rfl, rfl, by decide, rfl, rfl⟩
theorem fd_Model_length : xFd true 200 62 0 297 1 RX12 TX12 107 := ⟨by decide, rfl, rfl, rfl, by decide, rfl, rfl⟩
theorem fd_Model_slot : xFd true 200 63 0 298 1 RX12 TX12 107 := ⟨by decide, rfl, rfl, rfl, by decide, rfl, rfl⟩
theorem fd_Model_quiet : xFd true 200 64 0 299 1 RX12 TX12 107 := ⟨by decide, rfl, rfl, rfl, by decide, rfl, rfl⟩
theorem fd_Model_quietMany : xFd true 200 65 0 300 1 RX12 TX12 107 := ⟨by decide, rfl, rfl, rfl, by decide, rfl, rfl⟩
theorem fd_Model_began : xFd true 200 66 0 301 1 RX12 TX12 107 := ⟨by decide, rfl, rfl, rfl, by decide, rfl, rfl⟩
theorem fd_Model_unclean : xFd true 200 67 0 302 1 RX12 TX12 107 := ⟨by decide, rfl, rfl, rfl, by decide, rfl, rfl⟩
theorem fd_Model_failed : xFd true 200 68 0 303 1 RX12 TX12 107 := ⟨by decide, rfl, rfl, rfl, by decide, rfl, rfl⟩
theorem fd_Model_sending : xFd true 200 69 2 254 1 RX12 TX12 107 := ⟨by decide, rfl, rfl, rfl, by decide, rfl, rfl⟩
theorem fd_Model_waits : xFd true 200 70 2 255 1 RX12 TX12 107 := ⟨by decide, rfl, rfl, rfl, by decide, rfl, rfl⟩
theorem fd_Model_waitsFrom : xFd true 200 71 2 256 1 RX12 TX12 107 := ⟨by decide, rfl, rfl, rfl, by decide, rfl, rfl⟩
theorem fd_Model_due : xFd true 200 72 2 257 1 RX12 TX12 107 := ⟨by decide, rfl, rfl, rfl, by decide, rfl, rfl⟩
theorem fd_Model_dueAt : xFd true 200 73 2 258 1 RX12 TX12 107 := ⟨by decide, rfl, rfl, rfl, by decide, rfl, rfl⟩
theorem fd_Model_dueFor : xFd true 200 74 2 259 1 RX12 TX12 107 := ⟨by decide, rfl, rfl, rfl, by decide, rfl, rfl⟩
theorem fd_Model_live : xFd true 200 75 0 304 1 RX12 TX12 107 := ⟨by decide, rfl, rfl, rfl, by decide, rfl, rfl⟩
theorem fd_Model_vSender : xFd true 200 76 2 260 1 RX12 TX12 107 := ⟨by decide, rfl, rfl, rfl, by decide, rfl, rfl⟩
theorem fd_Model_vLast : xFd true 200 77 2 261 1 RX12 TX12 107 := ⟨by decide, rfl, rfl, rfl, by decide, rfl, rfl⟩
theorem fd_Model_vLen : xFd true 200 78 2 262 1 RX12 TX12 107 := ⟨by decide, rfl, rfl, rfl, by decide, rfl, rfl⟩
theorem fd_Model_vClean : xFd true 200 79 2 263 1 RX12 TX12 107 := ⟨by decide, rfl, rfl, rfl, by decide, rfl, rfl⟩
theorem fd_Model_vNumber : xFd true 200 80 2 264 1 RX12 TX12 107 := ⟨by decide, rfl, rfl, rfl, by decide, rfl, rfl⟩
theorem fd_Model_vBytes : xFd true 200 81 2 265 1 RX12 TX12 107 := ⟨by decide, rfl, rfl, rfl, by decide, rfl, rfl⟩
theorem fd_Model_hSender : xFd true 200 82 2 266 1 RX12 TX12 107 := ⟨by decide, rfl, rfl, rfl, by decide, rfl, rfl⟩
theorem fd_Model_hFirst : xFd true 200 83 2 267 1 RX12 TX12 107 := ⟨by decide, rfl, rfl, rfl, by decide, rfl, rfl⟩
theorem fd_Model_hLen : xFd true 200 84 2 268 1 RX12 TX12 107 := ⟨by decide, rfl, rfl, rfl, by decide, rfl, rfl⟩
theorem fd_Model_hSlots : xFd true 200 85 2 269 1 RX12 TX12 107 := ⟨by decide, rfl, rfl, rfl, by decide, rfl, rfl⟩
theorem fd_Model_hClean : xFd true 200 86 2 270 1 RX12 TX12 107 := ⟨by decide, rfl, rfl, rfl, by decide, rfl, rfl⟩
theorem fd_Model_hBytes : xFd true 200 87 2 271 1 RX12 TX12 107 := ⟨by decide, rfl, rfl, rfl, by decide, rfl, rfl⟩
theorem fd_Model_noiseFrom : xFd true 200 88 2 272 1 RX12 TX12 107 := ⟨by decide, rfl, rfl, rfl, by decide, rfl, rfl⟩
theorem fd_Model_noiseTo : xFd true 200 89 2 273 1 RX12 TX12 107 := ⟨by decide, rfl, rfl, rfl, by decide, rfl, rfl⟩
theorem fd_Model_noises : xFd true 200 90 0 305 1 RX12 TX12 107 := ⟨by decide, rfl, rfl, rfl, by decide, rfl, rfl⟩
theorem fd_Model_pSlot : xFd true 200 91 2 274 1 RX12 TX12 107 := ⟨by decide, rfl, rfl, rfl, by decide, rfl, rfl⟩
theorem fd_Model_pLen : xFd true 200 92 2 275 1 RX12 TX12 107 := ⟨by decide, rfl, rfl, rfl, by decide, rfl, rfl⟩
theorem fd_Model_pBytes : xFd true 200 93 2 276 1 RX12 TX12 107 := ⟨by decide, rfl, rfl, rfl, by decide, rfl, rfl⟩
theorem fd_Model_putMany : xFd true 200 94 0 306 1 RX12 TX12 107 := ⟨by decide, rfl, rfl, rfl, by decide, rfl, rfl⟩
theorem fd_Model_answer : xFd true 200 95 2 277 1 RX12 TX12 107 := ⟨by decide, rfl, rfl, rfl, by decide, rfl, rfl⟩
theorem fd_Model_seen : xFd true 200 96 2 278 1 RX12 TX12 107 := ⟨by decide, rfl, rfl, rfl, by decide, rfl, rfl⟩
theorem fd_Model_seenLen : xFd true 200 97 0 307 1 RX12 TX12 107 := ⟨by decide, rfl, rfl, rfl, by decide, rfl, rfl⟩
theorem fd_Model_latest : xFd true 200 98 2 279 1 RX12 TX12 107 := ⟨by decide, rfl, rfl, rfl, by decide, rfl, rfl⟩
theorem fd_Model_hasLatest : xFd true 200 99 2 280 1 RX12 TX12 107 := ⟨by decide, rfl, rfl, rfl, by decide, rfl, rfl⟩
theorem fd_Model_dropped : xFd true 200 100 2 281 1 RX12 TX12 107 := ⟨by decide, rfl, rfl, rfl, by decide, rfl, rfl⟩
theorem fd_Model_unsealed : xFd true 200 101 2 282 1 RX12 TX12 107 := ⟨by decide, rfl, rfl, rfl, by decide, rfl, rfl⟩
theorem fd_Model_plain : xFd true 200 102 2 283 1 RX12 TX12 107 := ⟨by decide, rfl, rfl, rfl, by decide, rfl, rfl⟩
theorem fd_Model_deliveredMany : xFd true 200 103 2 284 1 RX12 TX12 107 := ⟨by decide, rfl, rfl, rfl, by decide, rfl, rfl⟩
theorem fd_Model_deliveredFrom : xFd true 200 104 2 285 1 RX12 TX12 107 := ⟨by decide, rfl, rfl, rfl, by decide, rfl, rfl⟩
theorem fd_Model_deliveredLen : xFd true 200 105 2 286 1 RX12 TX12 107 := ⟨by decide, rfl, rfl, rfl, by decide, rfl, rfl⟩
theorem fd_Model_deliveredBytes : xFd true 200 106 2 287 1 RX12 TX12 107 := ⟨by decide, rfl, rfl, rfl, by decide, rfl, rfl⟩
theorem ar_11 : xAr false 11 1 300 1 := ⟨by decide, rfl, rfl, rfl, rfl⟩
theorem ar_12 : xAr false 12 1 16 1 := ⟨by decide, rfl, rfl, rfl, rfl⟩
theorem ar_13 : xAr false 13 1 16 1 := ⟨by decide, rfl, rfl, rfl, rfl⟩
theorem ar_14 : xAr false 14 1 16 1 := ⟨by decide, rfl, rfl, rfl, rfl⟩
theorem ar_15 : xAr false 15 1 176 1 := ⟨by decide, rfl, rfl, rfl, rfl⟩
theorem ar_16 : xAr false 16 1 200 1 := ⟨by decide, rfl, rfl, rfl, rfl⟩
theorem ar_17 : xAr false 17 4 12 9 := ⟨by decide, rfl, rfl, rfl, rfl⟩
theorem at_17 (G : xG) : (tyL G)[ka 17]? = some (G.2.1 (ka 17), .array .int) := rfl
theorem ar_18 : xAr false 18 1 200 108 := ⟨by decide, rfl, rfl, rfl, rfl⟩
theorem ar_19 : xAr false 19 1 12 9 := ⟨by decide, rfl, rfl, rfl, rfl⟩
theorem ar_20 : xAr false 20 1 12 9 := ⟨by decide, rfl, rfl, rfl, rfl⟩
theorem ar_21 : xAr false 21 1 32 18 := ⟨by decide, rfl, rfl, rfl, rfl⟩
theorem ar_22 : xAr false 22 1 48 18 := ⟨by decide, rfl, rfl, rfl, rfl⟩
theorem ar_23 : xAr false 23 1 32 18 := ⟨by decide, rfl, rfl, rfl, rfl⟩
theorem ar_24 : xAr false 24 1 16 18 := ⟨by decide, rfl, rfl, rfl, rfl⟩
theorem ar_25 : xAr false 25 1 208 18 := ⟨by decide, rfl, rfl, rfl, rfl⟩
theorem ar_26 : xAr false 26 4 40 1 := ⟨by decide, rfl, rfl, rfl, rfl⟩
theorem at_26 (G : xG) : (tyL G)[ka 26]? = some (G.2.1 (ka 26), .array .int) := rfl
theorem ar_27 : xAr false 27 1 300 40 := ⟨by decide, rfl, rfl, rfl, rfl⟩
theorem ar_28 : xAr false 28 1 40 1 := ⟨by decide, rfl, rfl, rfl, rfl⟩
theorem ar_29 : xAr false 29 1 40 1 := ⟨by decide, rfl, rfl, rfl, rfl⟩
theorem ar_30 : xAr false 30 1 40 1 := ⟨by decide, rfl, rfl, rfl, rfl⟩
theorem ar_31 : xAr false 31 1 40 1 := ⟨by decide, rfl, rfl, rfl, rfl⟩
theorem ar_32 : xAr false 32 2 40 1 := ⟨by decide, rfl, rfl, rfl, rfl⟩
theorem ar_33 : xAr false 33 1 16 1 := ⟨by decide, rfl, rfl, rfl, rfl⟩
theorem ar_34 : xAr false 34 1 30 1 := ⟨by decide, rfl, rfl, rfl, rfl⟩
theorem ar_35 : xAr false 35 1 30 1 := ⟨by decide, rfl, rfl, rfl, rfl⟩
theorem ar_36 : xAr false 36 1 208 108 := ⟨by decide, rfl, rfl, rfl, rfl⟩
theorem ar_37 : xAr false 37 1 32 9 := ⟨by decide, rfl, rfl, rfl, rfl⟩
theorem ar_38 : xAr false 38 1 9 9 := ⟨by decide, rfl, rfl, rfl, rfl⟩
theorem ar_39 : xAr false 39 1 6 9 := ⟨by decide, rfl, rfl, rfl, rfl⟩
theorem ar_40 : xAr false 40 1 300 9 := ⟨by decide, rfl, rfl, rfl, rfl⟩
theorem ar_41 : xAr false 41 4 20 1 := ⟨by decide, rfl, rfl, rfl, rfl⟩
theorem at_41 (G : xG) : (tyL G)[ka 41]? = some (G.2.1 (ka 41), .array .int) := rfl
theorem ar_42 : xAr false 42 1 300 20 := ⟨by decide, rfl, rfl, rfl, rfl⟩
theorem ar_43 : xAr false 43 1 20 1 := ⟨by decide, rfl, rfl, rfl, rfl⟩
theorem ar_44 : xAr false 44 1 20 1 := ⟨by decide, rfl, rfl, rfl, rfl⟩
theorem ar_45 : xAr false 45 4 12 9 := ⟨by decide, rfl, rfl, rfl, rfl⟩
theorem at_45 (G : xG) : (tyL G)[ka 45]? = some (G.2.1 (ka 45), .object "WirelessCell$Message") := rfl
theorem ar_46 : xAr false 46 1 20 1 := ⟨by decide, rfl, rfl, rfl, rfl⟩
theorem ar_47 : xAr false 47 1 60 1 := ⟨by decide, rfl, rfl, rfl, rfl⟩
theorem ar_48 : xAr false 48 1 100 1 := ⟨by decide, rfl, rfl, rfl, rfl⟩
theorem ar_49 : xAr false 49 1 256 1 := ⟨by decide, rfl, rfl, rfl, rfl⟩
theorem ar_50 : xAr false 50 1 80 1 := ⟨by decide, rfl, rfl, rfl, rfl⟩
theorem ar_51 : xAr false 51 1 5 1 := ⟨by decide, rfl, rfl, rfl, rfl⟩
theorem ar_52 : xAr false 52 4 9 1 := ⟨by decide, rfl, rfl, rfl, rfl⟩
theorem at_52 (G : xG) : (tyL G)[ka 52]? = some (G.2.1 (ka 52), .object "WirelessCell$Node") := rfl
theorem ar_53 : xAr false 53 4 9 1 := ⟨by decide, rfl, rfl, rfl, rfl⟩
theorem at_53 (G : xG) : (tyL G)[ka 53]? = some (G.2.1 (ka 53), .object "WirelessCell$Link") := rfl
theorem ar_54 : xAr false 54 4 9 1 := ⟨by decide, rfl, rfl, rfl, rfl⟩
theorem at_54 (G : xG) : (tyL G)[ka 54]? = some (G.2.1 (ka 54), .object "WirelessCell$Link") := rfl
theorem ar_55 : xAr false 55 1 300 1 := ⟨by decide, rfl, rfl, rfl, rfl⟩
theorem ar_56 : xAr false 56 1 200 1 := ⟨by decide, rfl, rfl, rfl, rfl⟩
theorem ar_57 : xAr false 57 1 14 1 := ⟨by decide, rfl, rfl, rfl, rfl⟩
theorem ar_58 : xAr false 58 1 6 1 := ⟨by decide, rfl, rfl, rfl, rfl⟩
theorem ar_201 : xAr true 201 1 5 1 := ⟨by decide, rfl, rfl, rfl, rfl⟩
theorem ar_202 : xAr true 202 1 80 1 := ⟨by decide, rfl, rfl, rfl, rfl⟩
theorem ar_203 : xAr true 203 1 64 1 := ⟨by decide, rfl, rfl, rfl, rfl⟩
theorem ar_204 : xAr true 204 1 20 1 := ⟨by decide, rfl, rfl, rfl, rfl⟩
theorem ar_205 : xAr true 205 1 64 1 := ⟨by decide, rfl, rfl, rfl, rfl⟩
theorem ar_206 : xAr true 206 1 20 1 := ⟨by decide, rfl, rfl, rfl, rfl⟩
theorem ar_207 : xAr true 207 1 256 1 := ⟨by decide, rfl, rfl, rfl, rfl⟩
theorem ar_208 : xAr true 208 1 176 1 := ⟨by decide, rfl, rfl, rfl, rfl⟩
theorem ar_209 : xAr true 209 1 16 1 := ⟨by decide, rfl, rfl, rfl, rfl⟩
theorem ar_210 : xAr true 210 1 16 1 := ⟨by decide, rfl, rfl, rfl, rfl⟩
theorem ar_211 : xAr true 211 1 13 1 := ⟨by decide, rfl, rfl, rfl, rfl⟩
theorem ar_212 : xAr true 212 1 16 1 := ⟨by decide, rfl, rfl, rfl, rfl⟩
theorem ar_213 : xAr true 213 1 16 1 := ⟨by decide, rfl, rfl, rfl, rfl⟩
theorem ar_214 : xAr true 214 1 8 1 := ⟨by decide, rfl, rfl, rfl, rfl⟩
theorem ar_215 : xAr true 215 1 300 1 := ⟨by decide, rfl, rfl, rfl, rfl⟩
theorem ar_216 : xAr true 216 1 576 1 := ⟨by decide, rfl, rfl, rfl, rfl⟩
theorem ar_217 : xAr true 217 1 288 1 := ⟨by decide, rfl, rfl, rfl, rfl⟩
theorem ar_218 : xAr true 218 1 9 1 := ⟨by decide, rfl, rfl, rfl, rfl⟩
theorem ar_219 : xAr true 219 1 9 1 := ⟨by decide, rfl, rfl, rfl, rfl⟩
theorem ar_220 : xAr true 220 2 9 1 := ⟨by decide, rfl, rfl, rfl, rfl⟩
theorem ar_221 : xAr true 221 1 288 1 := ⟨by decide, rfl, rfl, rfl, rfl⟩
theorem ar_222 : xAr true 222 2 18 1 := ⟨by decide, rfl, rfl, rfl, rfl⟩
theorem ar_223 : xAr true 223 1 864 1 := ⟨by decide, rfl, rfl, rfl, rfl⟩
theorem ar_224 : xAr true 224 2 18 1 := ⟨by decide, rfl, rfl, rfl, rfl⟩
theorem ar_225 : xAr true 225 1 288 1 := ⟨by decide, rfl, rfl, rfl, rfl⟩
theorem ar_226 : xAr true 226 3 18 1 := ⟨by decide, rfl, rfl, rfl, rfl⟩
theorem ar_227 : xAr true 227 3 18 1 := ⟨by decide, rfl, rfl, rfl, rfl⟩
theorem ar_228 : xAr true 228 2 18 1 := ⟨by decide, rfl, rfl, rfl, rfl⟩
theorem ar_229 : xAr true 229 1 18 1 := ⟨by decide, rfl, rfl, rfl, rfl⟩
theorem ar_230 : xAr true 230 1 18 1 := ⟨by decide, rfl, rfl, rfl, rfl⟩
theorem ar_231 : xAr true 231 1 18 1 := ⟨by decide, rfl, rfl, rfl, rfl⟩
theorem ar_232 : xAr true 232 1 3744 1 := ⟨by decide, rfl, rfl, rfl, rfl⟩
theorem ar_233 : xAr true 233 1 48 1 := ⟨by decide, rfl, rfl, rfl, rfl⟩
theorem ar_234 : xAr true 234 1 9 1 := ⟨by decide, rfl, rfl, rfl, rfl⟩
theorem ar_235 : xAr true 235 1 108 1 := ⟨by decide, rfl, rfl, rfl, rfl⟩
theorem ar_236 : xAr true 236 1 108 1 := ⟨by decide, rfl, rfl, rfl, rfl⟩
theorem ar_237 : xAr true 237 1 108 1 := ⟨by decide, rfl, rfl, rfl, rfl⟩
theorem ar_238 : xAr true 238 1 108 1 := ⟨by decide, rfl, rfl, rfl, rfl⟩
theorem ar_239 : xAr true 239 1 108 1 := ⟨by decide, rfl, rfl, rfl, rfl⟩
theorem ar_240 : xAr true 240 1 108 1 := ⟨by decide, rfl, rfl, rfl, rfl⟩
theorem ar_241 : xAr true 241 1 108 1 := ⟨by decide, rfl, rfl, rfl, rfl⟩
theorem ar_242 : xAr true 242 1 22464 1 := ⟨by decide, rfl, rfl, rfl, rfl⟩
theorem ar_243 : xAr true 243 1 9 1 := ⟨by decide, rfl, rfl, rfl, rfl⟩
theorem ar_244 : xAr true 244 2 9 1 := ⟨by decide, rfl, rfl, rfl, rfl⟩
theorem ar_245 : xAr true 245 1 2700 1 := ⟨by decide, rfl, rfl, rfl, rfl⟩
theorem ar_246 : xAr true 246 1 9 1 := ⟨by decide, rfl, rfl, rfl, rfl⟩
theorem ar_247 : xAr true 247 1 9 1 := ⟨by decide, rfl, rfl, rfl, rfl⟩
theorem ar_248 : xAr true 248 1 9 1 := ⟨by decide, rfl, rfl, rfl, rfl⟩
theorem ar_249 : xAr true 249 1 9 1 := ⟨by decide, rfl, rfl, rfl, rfl⟩
theorem ar_250 : xAr true 250 1 9 1 := ⟨by decide, rfl, rfl, rfl, rfl⟩
theorem ar_251 : xAr true 251 1 200 1 := ⟨by decide, rfl, rfl, rfl, rfl⟩
theorem ar_252 : xAr true 252 1 200 1 := ⟨by decide, rfl, rfl, rfl, rfl⟩
theorem ar_253 : xAr true 253 1 208 1 := ⟨by decide, rfl, rfl, rfl, rfl⟩
theorem ar_254 : xAr true 254 1 9 1 := ⟨by decide, rfl, rfl, rfl, rfl⟩
theorem ar_255 : xAr true 255 2 9 1 := ⟨by decide, rfl, rfl, rfl, rfl⟩
theorem ar_256 : xAr true 256 1 9 1 := ⟨by decide, rfl, rfl, rfl, rfl⟩
theorem ar_257 : xAr true 257 1 9 1 := ⟨by decide, rfl, rfl, rfl, rfl⟩
theorem ar_258 : xAr true 258 1 9 1 := ⟨by decide, rfl, rfl, rfl, rfl⟩
theorem ar_259 : xAr true 259 3 9 1 := ⟨by decide, rfl, rfl, rfl, rfl⟩
theorem ar_260 : xAr true 260 1 300 1 := ⟨by decide, rfl, rfl, rfl, rfl⟩
theorem ar_261 : xAr true 261 1 300 1 := ⟨by decide, rfl, rfl, rfl, rfl⟩
theorem ar_262 : xAr true 262 1 300 1 := ⟨by decide, rfl, rfl, rfl, rfl⟩
theorem ar_263 : xAr true 263 2 300 1 := ⟨by decide, rfl, rfl, rfl, rfl⟩
theorem ar_264 : xAr true 264 1 300 1 := ⟨by decide, rfl, rfl, rfl, rfl⟩
theorem ar_265 : xAr true 265 1 90000 1 := ⟨by decide, rfl, rfl, rfl, rfl⟩
theorem ar_266 : xAr true 266 1 40 1 := ⟨by decide, rfl, rfl, rfl, rfl⟩
theorem ar_267 : xAr true 267 1 40 1 := ⟨by decide, rfl, rfl, rfl, rfl⟩
theorem ar_268 : xAr true 268 1 40 1 := ⟨by decide, rfl, rfl, rfl, rfl⟩
theorem ar_269 : xAr true 269 1 40 1 := ⟨by decide, rfl, rfl, rfl, rfl⟩
theorem ar_270 : xAr true 270 1 40 1 := ⟨by decide, rfl, rfl, rfl, rfl⟩
theorem ar_271 : xAr true 271 1 12000 1 := ⟨by decide, rfl, rfl, rfl, rfl⟩
theorem ar_272 : xAr true 272 1 30 1 := ⟨by decide, rfl, rfl, rfl, rfl⟩
theorem ar_273 : xAr true 273 1 30 1 := ⟨by decide, rfl, rfl, rfl, rfl⟩
theorem ar_274 : xAr true 274 1 20 1 := ⟨by decide, rfl, rfl, rfl, rfl⟩
theorem ar_275 : xAr true 275 1 20 1 := ⟨by decide, rfl, rfl, rfl, rfl⟩
theorem ar_276 : xAr true 276 1 6000 1 := ⟨by decide, rfl, rfl, rfl, rfl⟩
theorem ar_277 : xAr true 277 1 14 1 := ⟨by decide, rfl, rfl, rfl, rfl⟩
theorem ar_278 : xAr true 278 1 300 1 := ⟨by decide, rfl, rfl, rfl, rfl⟩
theorem ar_279 : xAr true 279 1 81 1 := ⟨by decide, rfl, rfl, rfl, rfl⟩
theorem ar_280 : xAr true 280 2 81 1 := ⟨by decide, rfl, rfl, rfl, rfl⟩
theorem ar_281 : xAr true 281 1 9 1 := ⟨by decide, rfl, rfl, rfl, rfl⟩
theorem ar_282 : xAr true 282 1 9 1 := ⟨by decide, rfl, rfl, rfl, rfl⟩
theorem ar_283 : xAr true 283 1 300 1 := ⟨by decide, rfl, rfl, rfl, rfl⟩
theorem ar_284 : xAr true 284 1 9 1 := ⟨by decide, rfl, rfl, rfl, rfl⟩
theorem ar_285 : xAr true 285 1 108 1 := ⟨by decide, rfl, rfl, rfl, rfl⟩
theorem ar_286 : xAr true 286 1 108 1 := ⟨by decide, rfl, rfl, rfl, rfl⟩
theorem ar_287 : xAr true 287 1 21600 1 := ⟨by decide, rfl, rfl, rfl, rfl⟩
theorem hd_J0_charAt_5068e : yJ0_charAt_5068e.cls ≠ "java/lang/invoke/MethodHandle" ∧ yJ0_charAt_5068e.cls ≠ "java/lang/invoke/VarHandle" ∧ (parseMethodDescriptor yJ0_charAt_5068e.desc).map (fun d => d.parameters.length) = some 1 := by decide +kernel
theorem hd_J0_checkIndex_df160 : yJ0_checkIndex_df160.cls ≠ "java/lang/invoke/MethodHandle" ∧ yJ0_checkIndex_df160.cls ≠ "java/lang/invoke/VarHandle" ∧ (parseMethodDescriptor yJ0_checkIndex_df160.desc).map (fun d => d.parameters.length) = some 2 := by decide +kernel
theorem hd_J0_coder_7d493 : yJ0_coder_7d493.cls ≠ "java/lang/invoke/MethodHandle" ∧ yJ0_coder_7d493.cls ≠ "java/lang/invoke/VarHandle" ∧ (parseMethodDescriptor yJ0_coder_7d493.desc).map (fun d => d.parameters.length) = some 0 := by decide +kernel
theorem hd_J0_isLatin1_aae02 : yJ0_isLatin1_aae02.cls ≠ "java/lang/invoke/MethodHandle" ∧ yJ0_isLatin1_aae02.cls ≠ "java/lang/invoke/VarHandle" ∧ (parseMethodDescriptor yJ0_isLatin1_aae02.desc).map (fun d => d.parameters.length) = some 0 := by decide +kernel
theorem hd_J0_length_8abf5 : yJ0_length_8abf5.cls ≠ "java/lang/invoke/MethodHandle" ∧ yJ0_length_8abf5.cls ≠ "java/lang/invoke/VarHandle" ∧ (parseMethodDescriptor yJ0_length_8abf5.desc).map (fun d => d.parameters.length) = some 0 := by decide +kernel
theorem hd_J1_charAt_3b067 : yJ1_charAt_3b067.cls ≠ "java/lang/invoke/MethodHandle" ∧ yJ1_charAt_3b067.cls ≠ "java/lang/invoke/VarHandle" ∧ (parseMethodDescriptor yJ1_charAt_3b067.desc).map (fun d => d.parameters.length) = some 2 := by decide +kernel
theorem hd_J3_checkIndex_8e157 : yJ3_checkIndex_8e157.cls ≠ "java/lang/invoke/MethodHandle" ∧ yJ3_checkIndex_8e157.cls ≠ "java/lang/invoke/VarHandle" ∧ (parseMethodDescriptor yJ3_checkIndex_8e157.desc).map (fun d => d.parameters.length) = some 3 := by decide +kernel
theorem hd_J7_fill_53178 : yJ7_fill_53178.cls ≠ "java/lang/invoke/MethodHandle" ∧ yJ7_fill_53178.cls ≠ "java/lang/invoke/VarHandle" ∧ (parseMethodDescriptor yJ7_fill_53178.desc).map (fun d => d.parameters.length) = some 2 := by decide +kernel
theorem hd_J7_fill_fda19 : yJ7_fill_fda19.cls ≠ "java/lang/invoke/MethodHandle" ∧ yJ7_fill_fda19.cls ≠ "java/lang/invoke/VarHandle" ∧ (parseMethodDescriptor yJ7_fill_fda19.desc).map (fun d => d.parameters.length) = some 4 := by decide +kernel
theorem hd_J7_rangeCheck_23922 : yJ7_rangeCheck_23922.cls ≠ "java/lang/invoke/MethodHandle" ∧ yJ7_rangeCheck_23922.cls ≠ "java/lang/invoke/VarHandle" ∧ (parseMethodDescriptor yJ7_rangeCheck_23922.desc).map (fun d => d.parameters.length) = some 3 := by decide +kernel
theorem hd_J9_floorMod_7cf53 : yJ9_floorMod_7cf53.cls ≠ "java/lang/invoke/MethodHandle" ∧ yJ9_floorMod_7cf53.cls ≠ "java/lang/invoke/VarHandle" ∧ (parseMethodDescriptor yJ9_floorMod_7cf53.desc).map (fun d => d.parameters.length) = some 2 := by decide +kernel
theorem hd_J9_min_7cf53 : yJ9_min_7cf53.cls ≠ "java/lang/invoke/MethodHandle" ∧ yJ9_min_7cf53.cls ≠ "java/lang/invoke/VarHandle" ∧ (parseMethodDescriptor yJ9_min_7cf53.desc).map (fun d => d.parameters.length) = some 2 := by decide +kernel
theorem hd_X0_addUp : yX0_addUp.cls ≠ "java/lang/invoke/MethodHandle" ∧ yX0_addUp.cls ≠ "java/lang/invoke/VarHandle" ∧ (parseMethodDescriptor yX0_addUp.desc).map (fun d => d.parameters.length) = some 2 := by decide +kernel
theorem hd_X0_additional : yX0_additional.cls ≠ "java/lang/invoke/MethodHandle" ∧ yX0_additional.cls ≠ "java/lang/invoke/VarHandle" ∧ (parseMethodDescriptor yX0_additional.desc).map (fun d => d.parameters.length) = some 2 := by decide +kernel
theorem hd_X0_crypt : yX0_crypt.cls ≠ "java/lang/invoke/MethodHandle" ∧ yX0_crypt.cls ≠ "java/lang/invoke/VarHandle" ∧ (parseMethodDescriptor yX0_crypt.desc).map (fun d => d.parameters.length) = some 4 := by decide +kernel
theorem hd_X0_encrypt : yX0_encrypt.cls ≠ "java/lang/invoke/MethodHandle" ∧ yX0_encrypt.cls ≠ "java/lang/invoke/VarHandle" ∧ (parseMethodDescriptor yX0_encrypt.desc).map (fun d => d.parameters.length) = some 1 := by decide +kernel
theorem hd_X0_expandKey : yX0_expandKey.cls ≠ "java/lang/invoke/MethodHandle" ∧ yX0_expandKey.cls ≠ "java/lang/invoke/VarHandle" ∧ (parseMethodDescriptor yX0_expandKey.desc).map (fun d => d.parameters.length) = some 1 := by decide +kernel
theorem hd_X0_init : yX0_init.cls ≠ "java/lang/invoke/MethodHandle" ∧ yX0_init.cls ≠ "java/lang/invoke/VarHandle" ∧ (parseMethodDescriptor yX0_init.desc).map (fun d => d.parameters.length) = some 0 := by decide +kernel
theorem hd_X0_open : yX0_open.cls ≠ "java/lang/invoke/MethodHandle" ∧ yX0_open.cls ≠ "java/lang/invoke/VarHandle" ∧ (parseMethodDescriptor yX0_open.desc).map (fun d => d.parameters.length) = some 3 := by decide +kernel
theorem hd_X0_seal : yX0_seal.cls ≠ "java/lang/invoke/MethodHandle" ∧ yX0_seal.cls ≠ "java/lang/invoke/VarHandle" ∧ (parseMethodDescriptor yX0_seal.desc).map (fun d => d.parameters.length) = some 3 := by decide +kernel
theorem hd_X0_setFirstBlock : yX0_setFirstBlock.cls ≠ "java/lang/invoke/MethodHandle" ∧ yX0_setFirstBlock.cls ≠ "java/lang/invoke/VarHandle" ∧ (parseMethodDescriptor yX0_setFirstBlock.desc).map (fun d => d.parameters.length) = some 4 := by decide +kernel
theorem hd_X10_addWords : yX10_addWords.cls ≠ "java/lang/invoke/MethodHandle" ∧ yX10_addWords.cls ≠ "java/lang/invoke/VarHandle" ∧ (parseMethodDescriptor yX10_addWords.desc).map (fun d => d.parameters.length) = some 0 := by decide +kernel
theorem hd_X10_derive : yX10_derive.cls ≠ "java/lang/invoke/MethodHandle" ∧ yX10_derive.cls ≠ "java/lang/invoke/VarHandle" ∧ (parseMethodDescriptor yX10_derive.desc).map (fun d => d.parameters.length) = some 5 := by decide +kernel
theorem hd_X10_fillWords : yX10_fillWords.cls ≠ "java/lang/invoke/MethodHandle" ∧ yX10_fillWords.cls ≠ "java/lang/invoke/VarHandle" ∧ (parseMethodDescriptor yX10_fillWords.desc).map (fun d => d.parameters.length) = some 1 := by decide +kernel
theorem hd_X10_hashKeyed : yX10_hashKeyed.cls ≠ "java/lang/invoke/MethodHandle" ∧ yX10_hashKeyed.cls ≠ "java/lang/invoke/VarHandle" ∧ (parseMethodDescriptor yX10_hashKeyed.desc).map (fun d => d.parameters.length) = some 5 := by decide +kernel
theorem hd_X10_hashText : yX10_hashText.cls ≠ "java/lang/invoke/MethodHandle" ∧ yX10_hashText.cls ≠ "java/lang/invoke/VarHandle" ∧ (parseMethodDescriptor yX10_hashText.desc).map (fun d => d.parameters.length) = some 1 := by decide +kernel
theorem hd_X10_init : yX10_init.cls ≠ "java/lang/invoke/MethodHandle" ∧ yX10_init.cls ≠ "java/lang/invoke/VarHandle" ∧ (parseMethodDescriptor yX10_init.desc).map (fun d => d.parameters.length) = some 0 := by decide +kernel
theorem hd_X10_padKey : yX10_padKey.cls ≠ "java/lang/invoke/MethodHandle" ∧ yX10_padKey.cls ≠ "java/lang/invoke/VarHandle" ∧ (parseMethodDescriptor yX10_padKey.desc).map (fun d => d.parameters.length) = some 3 := by decide +kernel
theorem hd_X11_actAtAp : yX11_actAtAp.cls ≠ "java/lang/invoke/MethodHandle" ∧ yX11_actAtAp.cls ≠ "java/lang/invoke/VarHandle" ∧ (parseMethodDescriptor yX11_actAtAp.desc).map (fun d => d.parameters.length) = some 2 := by decide +kernel
theorem hd_X11_actAtStation : yX11_actAtStation.cls ≠ "java/lang/invoke/MethodHandle" ∧ yX11_actAtStation.cls ≠ "java/lang/invoke/VarHandle" ∧ (parseMethodDescriptor yX11_actAtStation.desc).map (fun d => d.parameters.length) = some 2 := by decide +kernel
theorem hd_X11_air : yX11_air.cls ≠ "java/lang/invoke/MethodHandle" ∧ yX11_air.cls ≠ "java/lang/invoke/VarHandle" ∧ (parseMethodDescriptor yX11_air.desc).map (fun d => d.parameters.length) = some 2 := by decide +kernel
theorem hd_X11_alter : yX11_alter.cls ≠ "java/lang/invoke/MethodHandle" ∧ yX11_alter.cls ≠ "java/lang/invoke/VarHandle" ∧ (parseMethodDescriptor yX11_alter.desc).map (fun d => d.parameters.length) = some 2 := by decide +kernel
theorem hd_X11_beginAck : yX11_beginAck.cls ≠ "java/lang/invoke/MethodHandle" ∧ yX11_beginAck.cls ≠ "java/lang/invoke/VarHandle" ∧ (parseMethodDescriptor yX11_beginAck.desc).map (fun d => d.parameters.length) = some 1 := by decide +kernel
theorem hd_X11_beginFrame : yX11_beginFrame.cls ≠ "java/lang/invoke/MethodHandle" ∧ yX11_beginFrame.cls ≠ "java/lang/invoke/VarHandle" ∧ (parseMethodDescriptor yX11_beginFrame.desc).map (fun d => d.parameters.length) = some 1 := by decide +kernel
theorem hd_X11_beginNodes : yX11_beginNodes.cls ≠ "java/lang/invoke/MethodHandle" ∧ yX11_beginNodes.cls ≠ "java/lang/invoke/VarHandle" ∧ (parseMethodDescriptor yX11_beginNodes.desc).map (fun d => d.parameters.length) = some 0 := by decide +kernel
theorem hd_X11_check : yX11_check.cls ≠ "java/lang/invoke/MethodHandle" ∧ yX11_check.cls ≠ "java/lang/invoke/VarHandle" ∧ (parseMethodDescriptor yX11_check.desc).map (fun d => d.parameters.length) = some 0 := by decide +kernel
theorem hd_X11_copy : yX11_copy.cls ≠ "java/lang/invoke/MethodHandle" ∧ yX11_copy.cls ≠ "java/lang/invoke/VarHandle" ∧ (parseMethodDescriptor yX11_copy.desc).map (fun d => d.parameters.length) = some 1 := by decide +kernel
theorem hd_X11_count : yX11_count.cls ≠ "java/lang/invoke/MethodHandle" ∧ yX11_count.cls ≠ "java/lang/invoke/VarHandle" ∧ (parseMethodDescriptor yX11_count.desc).map (fun d => d.parameters.length) = some 1 := by decide +kernel
theorem hd_X11_countDown : yX11_countDown.cls ≠ "java/lang/invoke/MethodHandle" ∧ yX11_countDown.cls ≠ "java/lang/invoke/VarHandle" ∧ (parseMethodDescriptor yX11_countDown.desc).map (fun d => d.parameters.length) = some 0 := by decide +kernel
theorem hd_X11_delivered : yX11_delivered.cls ≠ "java/lang/invoke/MethodHandle" ∧ yX11_delivered.cls ≠ "java/lang/invoke/VarHandle" ∧ (parseMethodDescriptor yX11_delivered.desc).map (fun d => d.parameters.length) = some 3 := by decide +kernel
theorem hd_X11_draw : yX11_draw.cls ≠ "java/lang/invoke/MethodHandle" ∧ yX11_draw.cls ≠ "java/lang/invoke/VarHandle" ∧ (parseMethodDescriptor yX11_draw.desc).map (fun d => d.parameters.length) = some 1 := by decide +kernel
theorem hd_X11_end : yX11_end.cls ≠ "java/lang/invoke/MethodHandle" ∧ yX11_end.cls ≠ "java/lang/invoke/VarHandle" ∧ (parseMethodDescriptor yX11_end.desc).map (fun d => d.parameters.length) = some 1 := by decide +kernel
theorem hd_X11_endFrames : yX11_endFrames.cls ≠ "java/lang/invoke/MethodHandle" ∧ yX11_endFrames.cls ≠ "java/lang/invoke/VarHandle" ∧ (parseMethodDescriptor yX11_endFrames.desc).map (fun d => d.parameters.length) = some 0 := by decide +kernel
theorem hd_X11_ended : yX11_ended.cls ≠ "java/lang/invoke/MethodHandle" ∧ yX11_ended.cls ≠ "java/lang/invoke/VarHandle" ∧ (parseMethodDescriptor yX11_ended.desc).map (fun d => d.parameters.length) = some 1 := by decide +kernel
theorem hd_X11_fail : yX11_fail.cls ≠ "java/lang/invoke/MethodHandle" ∧ yX11_fail.cls ≠ "java/lang/invoke/VarHandle" ∧ (parseMethodDescriptor yX11_fail.desc).map (fun d => d.parameters.length) = some 1 := by decide +kernel
theorem hd_X11_failWaiters : yX11_failWaiters.cls ≠ "java/lang/invoke/MethodHandle" ∧ yX11_failWaiters.cls ≠ "java/lang/invoke/VarHandle" ∧ (parseMethodDescriptor yX11_failWaiters.desc).map (fun d => d.parameters.length) = some 0 := by decide +kernel
theorem hd_X11_feed : yX11_feed.cls ≠ "java/lang/invoke/MethodHandle" ∧ yX11_feed.cls ≠ "java/lang/invoke/VarHandle" ∧ (parseMethodDescriptor yX11_feed.desc).map (fun d => d.parameters.length) = some 5 := by decide +kernel
theorem hd_X11_feedNumber : yX11_feedNumber.cls ≠ "java/lang/invoke/MethodHandle" ∧ yX11_feedNumber.cls ≠ "java/lang/invoke/VarHandle" ∧ (parseMethodDescriptor yX11_feedNumber.desc).map (fun d => d.parameters.length) = some 1 := by decide +kernel
theorem hd_X11_fillByLongs : yX11_fillByLongs.cls ≠ "java/lang/invoke/MethodHandle" ∧ yX11_fillByLongs.cls ≠ "java/lang/invoke/VarHandle" ∧ (parseMethodDescriptor yX11_fillByLongs.desc).map (fun d => d.parameters.length) = some 5 := by decide +kernel
theorem hd_X11_finishFirst : yX11_finishFirst.cls ≠ "java/lang/invoke/MethodHandle" ∧ yX11_finishFirst.cls ≠ "java/lang/invoke/VarHandle" ∧ (parseMethodDescriptor yX11_finishFirst.desc).map (fun d => d.parameters.length) = some 2 := by decide +kernel
theorem hd_X11_go : yX11_go.cls ≠ "java/lang/invoke/MethodHandle" ∧ yX11_go.cls ≠ "java/lang/invoke/VarHandle" ∧ (parseMethodDescriptor yX11_go.desc).map (fun d => d.parameters.length) = some 1 := by decide +kernel
theorem hd_X11_hasBody : yX11_hasBody.cls ≠ "java/lang/invoke/MethodHandle" ∧ yX11_hasBody.cls ≠ "java/lang/invoke/VarHandle" ∧ (parseMethodDescriptor yX11_hasBody.desc).map (fun d => d.parameters.length) = some 2 := by decide +kernel
theorem hd_X11_hasRightMic : yX11_hasRightMic.cls ≠ "java/lang/invoke/MethodHandle" ∧ yX11_hasRightMic.cls ≠ "java/lang/invoke/VarHandle" ∧ (parseMethodDescriptor yX11_hasRightMic.desc).map (fun d => d.parameters.length) = some 3 := by decide +kernel
theorem hd_X11_idleSlots : yX11_idleSlots.cls ≠ "java/lang/invoke/MethodHandle" ∧ yX11_idleSlots.cls ≠ "java/lang/invoke/VarHandle" ∧ (parseMethodDescriptor yX11_idleSlots.desc).map (fun d => d.parameters.length) = some 1 := by decide +kernel
theorem hd_X11_init : yX11_init.cls ≠ "java/lang/invoke/MethodHandle" ∧ yX11_init.cls ≠ "java/lang/invoke/VarHandle" ∧ (parseMethodDescriptor yX11_init.desc).map (fun d => d.parameters.length) = some 0 := by decide +kernel
theorem hd_X11_isNode : yX11_isNode.cls ≠ "java/lang/invoke/MethodHandle" ∧ yX11_isNode.cls ≠ "java/lang/invoke/VarHandle" ∧ (parseMethodDescriptor yX11_isNode.desc).map (fun d => d.parameters.length) = some 1 := by decide +kernel
theorem hd_X11_isStation : yX11_isStation.cls ≠ "java/lang/invoke/MethodHandle" ∧ yX11_isStation.cls ≠ "java/lang/invoke/VarHandle" ∧ (parseMethodDescriptor yX11_isStation.desc).map (fun d => d.parameters.length) = some 1 := by decide +kernel
theorem hd_X11_join : yX11_join.cls ≠ "java/lang/invoke/MethodHandle" ∧ yX11_join.cls ≠ "java/lang/invoke/VarHandle" ∧ (parseMethodDescriptor yX11_join.desc).map (fun d => d.parameters.length) = some 1 := by decide +kernel
theorem hd_X11_key : yX11_key.cls ≠ "java/lang/invoke/MethodHandle" ∧ yX11_key.cls ≠ "java/lang/invoke/VarHandle" ∧ (parseMethodDescriptor yX11_key.desc).map (fun d => d.parameters.length) = some 3 := by decide +kernel
theorem hd_X11_keyedAtAp : yX11_keyedAtAp.cls ≠ "java/lang/invoke/MethodHandle" ∧ yX11_keyedAtAp.cls ≠ "java/lang/invoke/VarHandle" ∧ (parseMethodDescriptor yX11_keyedAtAp.desc).map (fun d => d.parameters.length) = some 0 := by decide +kernel
theorem hd_X11_known : yX11_known.cls ≠ "java/lang/invoke/MethodHandle" ∧ yX11_known.cls ≠ "java/lang/invoke/VarHandle" ∧ (parseMethodDescriptor yX11_known.desc).map (fun d => d.parameters.length) = some 5 := by decide +kernel
theorem hd_X11_leave : yX11_leave.cls ≠ "java/lang/invoke/MethodHandle" ∧ yX11_leave.cls ≠ "java/lang/invoke/VarHandle" ∧ (parseMethodDescriptor yX11_leave.desc).map (fun d => d.parameters.length) = some 2 := by decide +kernel
theorem hd_X11_limit : yX11_limit.cls ≠ "java/lang/invoke/MethodHandle" ∧ yX11_limit.cls ≠ "java/lang/invoke/VarHandle" ∧ (parseMethodDescriptor yX11_limit.desc).map (fun d => d.parameters.length) = some 1 := by decide +kernel
theorem hd_X11_linkOf : yX11_linkOf.cls ≠ "java/lang/invoke/MethodHandle" ∧ yX11_linkOf.cls ≠ "java/lang/invoke/VarHandle" ∧ (parseMethodDescriptor yX11_linkOf.desc).map (fun d => d.parameters.length) = some 2 := by decide +kernel
theorem hd_X11_makeFrame : yX11_makeFrame.cls ≠ "java/lang/invoke/MethodHandle" ∧ yX11_makeFrame.cls ≠ "java/lang/invoke/VarHandle" ∧ (parseMethodDescriptor yX11_makeFrame.desc).map (fun d => d.parameters.length) = some 3 := by decide +kernel
theorem hd_X11_node : yX11_node.cls ≠ "java/lang/invoke/MethodHandle" ∧ yX11_node.cls ≠ "java/lang/invoke/VarHandle" ∧ (parseMethodDescriptor yX11_node.desc).map (fun d => d.parameters.length) = some 2 := by decide +kernel
theorem hd_X11_noise : yX11_noise.cls ≠ "java/lang/invoke/MethodHandle" ∧ yX11_noise.cls ≠ "java/lang/invoke/VarHandle" ∧ (parseMethodDescriptor yX11_noise.desc).map (fun d => d.parameters.length) = some 2 := by decide +kernel
theorem hd_X11_nonce : yX11_nonce.cls ≠ "java/lang/invoke/MethodHandle" ∧ yX11_nonce.cls ≠ "java/lang/invoke/VarHandle" ∧ (parseMethodDescriptor yX11_nonce.desc).map (fun d => d.parameters.length) = some 5 := by decide +kernel
theorem hd_X11_openMessage : yX11_openMessage.cls ≠ "java/lang/invoke/MethodHandle" ∧ yX11_openMessage.cls ≠ "java/lang/invoke/VarHandle" ∧ (parseMethodDescriptor yX11_openMessage.desc).map (fun d => d.parameters.length) = some 3 := by decide +kernel
theorem hd_X11_passOn : yX11_passOn.cls ≠ "java/lang/invoke/MethodHandle" ∧ yX11_passOn.cls ≠ "java/lang/invoke/VarHandle" ∧ (parseMethodDescriptor yX11_passOn.desc).map (fun d => d.parameters.length) = some 4 := by decide +kernel
theorem hd_X11_put : yX11_put.cls ≠ "java/lang/invoke/MethodHandle" ∧ yX11_put.cls ≠ "java/lang/invoke/VarHandle" ∧ (parseMethodDescriptor yX11_put.desc).map (fun d => d.parameters.length) = some 1 := by decide +kernel
theorem hd_X11_queueBody : yX11_queueBody.cls ≠ "java/lang/invoke/MethodHandle" ∧ yX11_queueBody.cls ≠ "java/lang/invoke/VarHandle" ∧ (parseMethodDescriptor yX11_queueBody.desc).map (fun d => d.parameters.length) = some 4 := by decide +kernel
theorem hd_X11_queueForward : yX11_queueForward.cls ≠ "java/lang/invoke/MethodHandle" ∧ yX11_queueForward.cls ≠ "java/lang/invoke/VarHandle" ∧ (parseMethodDescriptor yX11_queueForward.desc).map (fun d => d.parameters.length) = some 3 := by decide +kernel
theorem hd_X11_queueHand : yX11_queueHand.cls ≠ "java/lang/invoke/MethodHandle" ∧ yX11_queueHand.cls ≠ "java/lang/invoke/VarHandle" ∧ (parseMethodDescriptor yX11_queueHand.desc).map (fun d => d.parameters.length) = some 4 := by decide +kernel
theorem hd_X11_queueTape : yX11_queueTape.cls ≠ "java/lang/invoke/MethodHandle" ∧ yX11_queueTape.cls ≠ "java/lang/invoke/VarHandle" ∧ (parseMethodDescriptor yX11_queueTape.desc).map (fun d => d.parameters.length) = some 3 := by decide +kernel
theorem hd_X11_secret : yX11_secret.cls ≠ "java/lang/invoke/MethodHandle" ∧ yX11_secret.cls ≠ "java/lang/invoke/VarHandle" ∧ (parseMethodDescriptor yX11_secret.desc).map (fun d => d.parameters.length) = some 5 := by decide +kernel
theorem hd_X11_size : yX11_size.cls ≠ "java/lang/invoke/MethodHandle" ∧ yX11_size.cls ≠ "java/lang/invoke/VarHandle" ∧ (parseMethodDescriptor yX11_size.desc).map (fun d => d.parameters.length) = some 1 := by decide +kernel
theorem hd_X11_submit : yX11_submit.cls ≠ "java/lang/invoke/MethodHandle" ∧ yX11_submit.cls ≠ "java/lang/invoke/VarHandle" ∧ (parseMethodDescriptor yX11_submit.desc).map (fun d => d.parameters.length) = some 2 := by decide +kernel
theorem hd_X11_takeAck : yX11_takeAck.cls ≠ "java/lang/invoke/MethodHandle" ∧ yX11_takeAck.cls ≠ "java/lang/invoke/VarHandle" ∧ (parseMethodDescriptor yX11_takeAck.desc).map (fun d => d.parameters.length) = some 1 := by decide +kernel
theorem hd_X11_takeData : yX11_takeData.cls ≠ "java/lang/invoke/MethodHandle" ∧ yX11_takeData.cls ≠ "java/lang/invoke/VarHandle" ∧ (parseMethodDescriptor yX11_takeData.desc).map (fun d => d.parameters.length) = some 1 := by decide +kernel
theorem hd_X11_takeFrame : yX11_takeFrame.cls ≠ "java/lang/invoke/MethodHandle" ∧ yX11_takeFrame.cls ≠ "java/lang/invoke/VarHandle" ∧ (parseMethodDescriptor yX11_takeFrame.desc).map (fun d => d.parameters.length) = some 0 := by decide +kernel
theorem hd_X11_takeHandAtAp : yX11_takeHandAtAp.cls ≠ "java/lang/invoke/MethodHandle" ∧ yX11_takeHandAtAp.cls ≠ "java/lang/invoke/VarHandle" ∧ (parseMethodDescriptor yX11_takeHandAtAp.desc).map (fun d => d.parameters.length) = some 3 := by decide +kernel
theorem hd_X11_takeHandAtStation : yX11_takeHandAtStation.cls ≠ "java/lang/invoke/MethodHandle" ∧ yX11_takeHandAtStation.cls ≠ "java/lang/invoke/VarHandle" ∧ (parseMethodDescriptor yX11_takeHandAtStation.desc).map (fun d => d.parameters.length) = some 3 := by decide +kernel
theorem hd_X11_takeManagement : yX11_takeManagement.cls ≠ "java/lang/invoke/MethodHandle" ∧ yX11_takeManagement.cls ≠ "java/lang/invoke/VarHandle" ∧ (parseMethodDescriptor yX11_takeManagement.desc).map (fun d => d.parameters.length) = some 1 := by decide +kernel
theorem hd_X11_takeSealed : yX11_takeSealed.cls ≠ "java/lang/invoke/MethodHandle" ∧ yX11_takeSealed.cls ≠ "java/lang/invoke/VarHandle" ∧ (parseMethodDescriptor yX11_takeSealed.desc).map (fun d => d.parameters.length) = some 3 := by decide +kernel
theorem hd_X11_tape : yX11_tape.cls ≠ "java/lang/invoke/MethodHandle" ∧ yX11_tape.cls ≠ "java/lang/invoke/VarHandle" ∧ (parseMethodDescriptor yX11_tape.desc).map (fun d => d.parameters.length) = some 1 := by decide +kernel
theorem hd_X12_acknowledge : yX12_acknowledge.cls ≠ "java/lang/invoke/MethodHandle" ∧ yX12_acknowledge.cls ≠ "java/lang/invoke/VarHandle" ∧ (parseMethodDescriptor yX12_acknowledge.desc).map (fun d => d.parameters.length) = some 1 := by decide +kernel
theorem hd_X12_acknowledged : yX12_acknowledged.cls ≠ "java/lang/invoke/MethodHandle" ∧ yX12_acknowledged.cls ≠ "java/lang/invoke/VarHandle" ∧ (parseMethodDescriptor yX12_acknowledged.desc).map (fun d => d.parameters.length) = some 1 := by decide +kernel
theorem hd_X12_actsAp : yX12_actsAp.cls ≠ "java/lang/invoke/MethodHandle" ∧ yX12_actsAp.cls ≠ "java/lang/invoke/VarHandle" ∧ (parseMethodDescriptor yX12_actsAp.desc).map (fun d => d.parameters.length) = some 1 := by decide +kernel
theorem hd_X12_actsStation : yX12_actsStation.cls ≠ "java/lang/invoke/MethodHandle" ∧ yX12_actsStation.cls ≠ "java/lang/invoke/VarHandle" ∧ (parseMethodDescriptor yX12_actsStation.desc).map (fun d => d.parameters.length) = some 1 := by decide +kernel
theorem hd_X12_add : yX12_add.cls ≠ "java/lang/invoke/MethodHandle" ∧ yX12_add.cls ≠ "java/lang/invoke/VarHandle" ∧ (parseMethodDescriptor yX12_add.desc).map (fun d => d.parameters.length) = some 1 := by decide +kernel
theorem hd_X12_air : yX12_air.cls ≠ "java/lang/invoke/MethodHandle" ∧ yX12_air.cls ≠ "java/lang/invoke/VarHandle" ∧ (parseMethodDescriptor yX12_air.desc).map (fun d => d.parameters.length) = some 2 := by decide +kernel
theorem hd_X12_alter : yX12_alter.cls ≠ "java/lang/invoke/MethodHandle" ∧ yX12_alter.cls ≠ "java/lang/invoke/VarHandle" ∧ (parseMethodDescriptor yX12_alter.desc).map (fun d => d.parameters.length) = some 2 := by decide +kernel
theorem hd_X12_asks : yX12_asks.cls ≠ "java/lang/invoke/MethodHandle" ∧ yX12_asks.cls ≠ "java/lang/invoke/VarHandle" ∧ (parseMethodDescriptor yX12_asks.desc).map (fun d => d.parameters.length) = some 1 := by decide +kernel
theorem hd_X12_begin : yX12_begin.cls ≠ "java/lang/invoke/MethodHandle" ∧ yX12_begin.cls ≠ "java/lang/invoke/VarHandle" ∧ (parseMethodDescriptor yX12_begin.desc).map (fun d => d.parameters.length) = some 0 := by decide +kernel
theorem hd_X12_begins : yX12_begins.cls ≠ "java/lang/invoke/MethodHandle" ∧ yX12_begins.cls ≠ "java/lang/invoke/VarHandle" ∧ (parseMethodDescriptor yX12_begins.desc).map (fun d => d.parameters.length) = some 1 := by decide +kernel
theorem hd_X12_beginsMessage : yX12_beginsMessage.cls ≠ "java/lang/invoke/MethodHandle" ∧ yX12_beginsMessage.cls ≠ "java/lang/invoke/VarHandle" ∧ (parseMethodDescriptor yX12_beginsMessage.desc).map (fun d => d.parameters.length) = some 2 := by decide +kernel
theorem hd_X12_besideAt : yX12_besideAt.cls ≠ "java/lang/invoke/MethodHandle" ∧ yX12_besideAt.cls ≠ "java/lang/invoke/VarHandle" ∧ (parseMethodDescriptor yX12_besideAt.desc).map (fun d => d.parameters.length) = some 3 := by decide +kernel
theorem hd_X12_chainStep : yX12_chainStep.cls ≠ "java/lang/invoke/MethodHandle" ∧ yX12_chainStep.cls ≠ "java/lang/invoke/VarHandle" ∧ (parseMethodDescriptor yX12_chainStep.desc).map (fun d => d.parameters.length) = some 0 := by decide +kernel
theorem hd_X12_check : yX12_check.cls ≠ "java/lang/invoke/MethodHandle" ∧ yX12_check.cls ≠ "java/lang/invoke/VarHandle" ∧ (parseMethodDescriptor yX12_check.desc).map (fun d => d.parameters.length) = some 0 := by decide +kernel
theorem hd_X12_copy : yX12_copy.cls ≠ "java/lang/invoke/MethodHandle" ∧ yX12_copy.cls ≠ "java/lang/invoke/VarHandle" ∧ (parseMethodDescriptor yX12_copy.desc).map (fun d => d.parameters.length) = some 1 := by decide +kernel
theorem hd_X12_count : yX12_count.cls ≠ "java/lang/invoke/MethodHandle" ∧ yX12_count.cls ≠ "java/lang/invoke/VarHandle" ∧ (parseMethodDescriptor yX12_count.desc).map (fun d => d.parameters.length) = some 1 := by decide +kernel
theorem hd_X12_counter : yX12_counter.cls ≠ "java/lang/invoke/MethodHandle" ∧ yX12_counter.cls ≠ "java/lang/invoke/VarHandle" ∧ (parseMethodDescriptor yX12_counter.desc).map (fun d => d.parameters.length) = some 1 := by decide +kernel
theorem hd_X12_cover : yX12_cover.cls ≠ "java/lang/invoke/MethodHandle" ∧ yX12_cover.cls ≠ "java/lang/invoke/VarHandle" ∧ (parseMethodDescriptor yX12_cover.desc).map (fun d => d.parameters.length) = some 5 := by decide +kernel
theorem hd_X12_crc : yX12_crc.cls ≠ "java/lang/invoke/MethodHandle" ∧ yX12_crc.cls ≠ "java/lang/invoke/VarHandle" ∧ (parseMethodDescriptor yX12_crc.desc).map (fun d => d.parameters.length) = some 3 := by decide +kernel
theorem hd_X12_deliver : yX12_deliver.cls ≠ "java/lang/invoke/MethodHandle" ∧ yX12_deliver.cls ≠ "java/lang/invoke/VarHandle" ∧ (parseMethodDescriptor yX12_deliver.desc).map (fun d => d.parameters.length) = some 4 := by decide +kernel
theorem hd_X12_delivered : yX12_delivered.cls ≠ "java/lang/invoke/MethodHandle" ∧ yX12_delivered.cls ≠ "java/lang/invoke/VarHandle" ∧ (parseMethodDescriptor yX12_delivered.desc).map (fun d => d.parameters.length) = some 3 := by decide +kernel
theorem hd_X12_draw : yX12_draw.cls ≠ "java/lang/invoke/MethodHandle" ∧ yX12_draw.cls ≠ "java/lang/invoke/VarHandle" ∧ (parseMethodDescriptor yX12_draw.desc).map (fun d => d.parameters.length) = some 1 := by decide +kernel
theorem hd_X12_drawn : yX12_drawn.cls ≠ "java/lang/invoke/MethodHandle" ∧ yX12_drawn.cls ≠ "java/lang/invoke/VarHandle" ∧ (parseMethodDescriptor yX12_drawn.desc).map (fun d => d.parameters.length) = some 0 := by decide +kernel
theorem hd_X12_encipher : yX12_encipher.cls ≠ "java/lang/invoke/MethodHandle" ∧ yX12_encipher.cls ≠ "java/lang/invoke/VarHandle" ∧ (parseMethodDescriptor yX12_encipher.desc).map (fun d => d.parameters.length) = some 0 := by decide +kernel
theorem hd_X12_end : yX12_end.cls ≠ "java/lang/invoke/MethodHandle" ∧ yX12_end.cls ≠ "java/lang/invoke/VarHandle" ∧ (parseMethodDescriptor yX12_end.desc).map (fun d => d.parameters.length) = some 1 := by decide +kernel
theorem hd_X12_endAll : yX12_endAll.cls ≠ "java/lang/invoke/MethodHandle" ∧ yX12_endAll.cls ≠ "java/lang/invoke/VarHandle" ∧ (parseMethodDescriptor yX12_endAll.desc).map (fun d => d.parameters.length) = some 0 := by decide +kernel
theorem hd_X12_ended : yX12_ended.cls ≠ "java/lang/invoke/MethodHandle" ∧ yX12_ended.cls ≠ "java/lang/invoke/VarHandle" ∧ (parseMethodDescriptor yX12_ended.desc).map (fun d => d.parameters.length) = some 1 := by decide +kernel
theorem hd_X12_enqueue : yX12_enqueue.cls ≠ "java/lang/invoke/MethodHandle" ∧ yX12_enqueue.cls ≠ "java/lang/invoke/VarHandle" ∧ (parseMethodDescriptor yX12_enqueue.desc).map (fun d => d.parameters.length) = some 5 := by decide +kernel
theorem hd_X12_expand : yX12_expand.cls ≠ "java/lang/invoke/MethodHandle" ∧ yX12_expand.cls ≠ "java/lang/invoke/VarHandle" ∧ (parseMethodDescriptor yX12_expand.desc).map (fun d => d.parameters.length) = some 2 := by decide +kernel
theorem hd_X12_fail : yX12_fail.cls ≠ "java/lang/invoke/MethodHandle" ∧ yX12_fail.cls ≠ "java/lang/invoke/VarHandle" ∧ (parseMethodDescriptor yX12_fail.desc).map (fun d => d.parameters.length) = some 1 := by decide +kernel
theorem hd_X12_feed : yX12_feed.cls ≠ "java/lang/invoke/MethodHandle" ∧ yX12_feed.cls ≠ "java/lang/invoke/VarHandle" ∧ (parseMethodDescriptor yX12_feed.desc).map (fun d => d.parameters.length) = some 5 := by decide +kernel
theorem hd_X12_findBoxes : yX12_findBoxes.cls ≠ "java/lang/invoke/MethodHandle" ∧ yX12_findBoxes.cls ≠ "java/lang/invoke/VarHandle" ∧ (parseMethodDescriptor yX12_findBoxes.desc).map (fun d => d.parameters.length) = some 0 := by decide +kernel
theorem hd_X12_findTag : yX12_findTag.cls ≠ "java/lang/invoke/MethodHandle" ∧ yX12_findTag.cls ≠ "java/lang/invoke/VarHandle" ∧ (parseMethodDescriptor yX12_findTag.desc).map (fun d => d.parameters.length) = some 5 := by decide +kernel
theorem hd_X12_findTried : yX12_findTried.cls ≠ "java/lang/invoke/MethodHandle" ∧ yX12_findTried.cls ≠ "java/lang/invoke/VarHandle" ∧ (parseMethodDescriptor yX12_findTried.desc).map (fun d => d.parameters.length) = some 5 := by decide +kernel
theorem hd_X12_four : yX12_four.cls ≠ "java/lang/invoke/MethodHandle" ∧ yX12_four.cls ≠ "java/lang/invoke/VarHandle" ∧ (parseMethodDescriptor yX12_four.desc).map (fun d => d.parameters.length) = some 1 := by decide +kernel
theorem hd_X12_go : yX12_go.cls ≠ "java/lang/invoke/MethodHandle" ∧ yX12_go.cls ≠ "java/lang/invoke/VarHandle" ∧ (parseMethodDescriptor yX12_go.desc).map (fun d => d.parameters.length) = some 1 := by decide +kernel
theorem hd_X12_goSlot : yX12_goSlot.cls ≠ "java/lang/invoke/MethodHandle" ∧ yX12_goSlot.cls ≠ "java/lang/invoke/VarHandle" ∧ (parseMethodDescriptor yX12_goSlot.desc).map (fun d => d.parameters.length) = some 0 := by decide +kernel
theorem hd_X12_goesOut : yX12_goesOut.cls ≠ "java/lang/invoke/MethodHandle" ∧ yX12_goesOut.cls ≠ "java/lang/invoke/VarHandle" ∧ (parseMethodDescriptor yX12_goesOut.desc).map (fun d => d.parameters.length) = some 4 := by decide +kernel
theorem hd_X12_handAp : yX12_handAp.cls ≠ "java/lang/invoke/MethodHandle" ∧ yX12_handAp.cls ≠ "java/lang/invoke/VarHandle" ∧ (parseMethodDescriptor yX12_handAp.desc).map (fun d => d.parameters.length) = some 1 := by decide +kernel
theorem hd_X12_handOf : yX12_handOf.cls ≠ "java/lang/invoke/MethodHandle" ∧ yX12_handOf.cls ≠ "java/lang/invoke/VarHandle" ∧ (parseMethodDescriptor yX12_handOf.desc).map (fun d => d.parameters.length) = some 0 := by decide +kernel
theorem hd_X12_handStation : yX12_handStation.cls ≠ "java/lang/invoke/MethodHandle" ∧ yX12_handStation.cls ≠ "java/lang/invoke/VarHandle" ∧ (parseMethodDescriptor yX12_handStation.desc).map (fun d => d.parameters.length) = some 1 := by decide +kernel
theorem hd_X12_hash : yX12_hash.cls ≠ "java/lang/invoke/MethodHandle" ∧ yX12_hash.cls ≠ "java/lang/invoke/VarHandle" ∧ (parseMethodDescriptor yX12_hash.desc).map (fun d => d.parameters.length) = some 1 := by decide +kernel
theorem hd_X12_hashAddress : yX12_hashAddress.cls ≠ "java/lang/invoke/MethodHandle" ∧ yX12_hashAddress.cls ≠ "java/lang/invoke/VarHandle" ∧ (parseMethodDescriptor yX12_hashAddress.desc).map (fun d => d.parameters.length) = some 1 := by decide +kernel
theorem hd_X12_hashBegin : yX12_hashBegin.cls ≠ "java/lang/invoke/MethodHandle" ∧ yX12_hashBegin.cls ≠ "java/lang/invoke/VarHandle" ∧ (parseMethodDescriptor yX12_hashBegin.desc).map (fun d => d.parameters.length) = some 0 := by decide +kernel
theorem hd_X12_hashEnd : yX12_hashEnd.cls ≠ "java/lang/invoke/MethodHandle" ∧ yX12_hashEnd.cls ≠ "java/lang/invoke/VarHandle" ∧ (parseMethodDescriptor yX12_hashEnd.desc).map (fun d => d.parameters.length) = some 0 := by decide +kernel
theorem hd_X12_hashLetters : yX12_hashLetters.cls ≠ "java/lang/invoke/MethodHandle" ∧ yX12_hashLetters.cls ≠ "java/lang/invoke/VarHandle" ∧ (parseMethodDescriptor yX12_hashLetters.desc).map (fun d => d.parameters.length) = some 2 := by decide +kernel
theorem hd_X12_in : yX12_in.cls ≠ "java/lang/invoke/MethodHandle" ∧ yX12_in.cls ≠ "java/lang/invoke/VarHandle" ∧ (parseMethodDescriptor yX12_in.desc).map (fun d => d.parameters.length) = some 3 := by decide +kernel
theorem hd_X12_init : yX12_init.cls ≠ "java/lang/invoke/MethodHandle" ∧ yX12_init.cls ≠ "java/lang/invoke/VarHandle" ∧ (parseMethodDescriptor yX12_init.desc).map (fun d => d.parameters.length) = some 0 := by decide +kernel
theorem hd_X12_isBody : yX12_isBody.cls ≠ "java/lang/invoke/MethodHandle" ∧ yX12_isBody.cls ≠ "java/lang/invoke/VarHandle" ∧ (parseMethodDescriptor yX12_isBody.desc).map (fun d => d.parameters.length) = some 5 := by decide +kernel
theorem hd_X12_isEnded : yX12_isEnded.cls ≠ "java/lang/invoke/MethodHandle" ∧ yX12_isEnded.cls ≠ "java/lang/invoke/VarHandle" ∧ (parseMethodDescriptor yX12_isEnded.desc).map (fun d => d.parameters.length) = some 2 := by decide +kernel
theorem hd_X12_isKept : yX12_isKept.cls ≠ "java/lang/invoke/MethodHandle" ∧ yX12_isKept.cls ≠ "java/lang/invoke/VarHandle" ∧ (parseMethodDescriptor yX12_isKept.desc).map (fun d => d.parameters.length) = some 1 := by decide +kernel
theorem hd_X12_isMac : yX12_isMac.cls ≠ "java/lang/invoke/MethodHandle" ∧ yX12_isMac.cls ≠ "java/lang/invoke/VarHandle" ∧ (parseMethodDescriptor yX12_isMac.desc).map (fun d => d.parameters.length) = some 5 := by decide +kernel
theorem hd_X12_isNode : yX12_isNode.cls ≠ "java/lang/invoke/MethodHandle" ∧ yX12_isNode.cls ≠ "java/lang/invoke/VarHandle" ∧ (parseMethodDescriptor yX12_isNode.desc).map (fun d => d.parameters.length) = some 1 := by decide +kernel
theorem hd_X12_isNoisy : yX12_isNoisy.cls ≠ "java/lang/invoke/MethodHandle" ∧ yX12_isNoisy.cls ≠ "java/lang/invoke/VarHandle" ∧ (parseMethodDescriptor yX12_isNoisy.desc).map (fun d => d.parameters.length) = some 0 := by decide +kernel
theorem hd_X12_isRight : yX12_isRight.cls ≠ "java/lang/invoke/MethodHandle" ∧ yX12_isRight.cls ≠ "java/lang/invoke/VarHandle" ∧ (parseMethodDescriptor yX12_isRight.desc).map (fun d => d.parameters.length) = some 1 := by decide +kernel
theorem hd_X12_isSealed : yX12_isSealed.cls ≠ "java/lang/invoke/MethodHandle" ∧ yX12_isSealed.cls ≠ "java/lang/invoke/VarHandle" ∧ (parseMethodDescriptor yX12_isSealed.desc).map (fun d => d.parameters.length) = some 1 := by decide +kernel
theorem hd_X12_isStation : yX12_isStation.cls ≠ "java/lang/invoke/MethodHandle" ∧ yX12_isStation.cls ≠ "java/lang/invoke/VarHandle" ∧ (parseMethodDescriptor yX12_isStation.desc).map (fun d => d.parameters.length) = some 1 := by decide +kernel
theorem hd_X12_isTold : yX12_isTold.cls ≠ "java/lang/invoke/MethodHandle" ∧ yX12_isTold.cls ≠ "java/lang/invoke/VarHandle" ∧ (parseMethodDescriptor yX12_isTold.desc).map (fun d => d.parameters.length) = some 0 := by decide +kernel
theorem hd_X12_isWhole : yX12_isWhole.cls ≠ "java/lang/invoke/MethodHandle" ∧ yX12_isWhole.cls ≠ "java/lang/invoke/VarHandle" ∧ (parseMethodDescriptor yX12_isWhole.desc).map (fun d => d.parameters.length) = some 0 := by decide +kernel
theorem hd_X12_join : yX12_join.cls ≠ "java/lang/invoke/MethodHandle" ∧ yX12_join.cls ≠ "java/lang/invoke/VarHandle" ∧ (parseMethodDescriptor yX12_join.desc).map (fun d => d.parameters.length) = some 1 := by decide +kernel
theorem hd_X12_keepTried : yX12_keepTried.cls ≠ "java/lang/invoke/MethodHandle" ∧ yX12_keepTried.cls ≠ "java/lang/invoke/VarHandle" ∧ (parseMethodDescriptor yX12_keepTried.desc).map (fun d => d.parameters.length) = some 1 := by decide +kernel
theorem hd_X12_key : yX12_key.cls ≠ "java/lang/invoke/MethodHandle" ∧ yX12_key.cls ≠ "java/lang/invoke/VarHandle" ∧ (parseMethodDescriptor yX12_key.desc).map (fun d => d.parameters.length) = some 3 := by decide +kernel
theorem hd_X12_keyBy : yX12_keyBy.cls ≠ "java/lang/invoke/MethodHandle" ∧ yX12_keyBy.cls ≠ "java/lang/invoke/VarHandle" ∧ (parseMethodDescriptor yX12_keyBy.desc).map (fun d => d.parameters.length) = some 1 := by decide +kernel
theorem hd_X12_keyedMany : yX12_keyedMany.cls ≠ "java/lang/invoke/MethodHandle" ∧ yX12_keyedMany.cls ≠ "java/lang/invoke/VarHandle" ∧ (parseMethodDescriptor yX12_keyedMany.desc).map (fun d => d.parameters.length) = some 0 := by decide +kernel
theorem hd_X12_known : yX12_known.cls ≠ "java/lang/invoke/MethodHandle" ∧ yX12_known.cls ≠ "java/lang/invoke/VarHandle" ∧ (parseMethodDescriptor yX12_known.desc).map (fun d => d.parameters.length) = some 5 := by decide +kernel
theorem hd_X12_leave : yX12_leave.cls ≠ "java/lang/invoke/MethodHandle" ∧ yX12_leave.cls ≠ "java/lang/invoke/VarHandle" ∧ (parseMethodDescriptor yX12_leave.desc).map (fun d => d.parameters.length) = some 2 := by decide +kernel
theorem hd_X12_leaves : yX12_leaves.cls ≠ "java/lang/invoke/MethodHandle" ∧ yX12_leaves.cls ≠ "java/lang/invoke/VarHandle" ∧ (parseMethodDescriptor yX12_leaves.desc).map (fun d => d.parameters.length) = some 2 := by decide +kernel
theorem hd_X12_left : yX12_left.cls ≠ "java/lang/invoke/MethodHandle" ∧ yX12_left.cls ≠ "java/lang/invoke/VarHandle" ∧ (parseMethodDescriptor yX12_left.desc).map (fun d => d.parameters.length) = some 2 := by decide +kernel
theorem hd_X12_limit : yX12_limit.cls ≠ "java/lang/invoke/MethodHandle" ∧ yX12_limit.cls ≠ "java/lang/invoke/VarHandle" ∧ (parseMethodDescriptor yX12_limit.desc).map (fun d => d.parameters.length) = some 1 := by decide +kernel
theorem hd_X12_look : yX12_look.cls ≠ "java/lang/invoke/MethodHandle" ∧ yX12_look.cls ≠ "java/lang/invoke/VarHandle" ∧ (parseMethodDescriptor yX12_look.desc).map (fun d => d.parameters.length) = some 1 := by decide +kernel
theorem hd_X12_macBegin : yX12_macBegin.cls ≠ "java/lang/invoke/MethodHandle" ∧ yX12_macBegin.cls ≠ "java/lang/invoke/VarHandle" ∧ (parseMethodDescriptor yX12_macBegin.desc).map (fun d => d.parameters.length) = some 3 := by decide +kernel
theorem hd_X12_macEnd : yX12_macEnd.cls ≠ "java/lang/invoke/MethodHandle" ∧ yX12_macEnd.cls ≠ "java/lang/invoke/VarHandle" ∧ (parseMethodDescriptor yX12_macEnd.desc).map (fun d => d.parameters.length) = some 0 := by decide +kernel
theorem hd_X12_macOf : yX12_macOf.cls ≠ "java/lang/invoke/MethodHandle" ∧ yX12_macOf.cls ≠ "java/lang/invoke/VarHandle" ∧ (parseMethodDescriptor yX12_macOf.desc).map (fun d => d.parameters.length) = some 5 := by decide +kernel
theorem hd_X12_make : yX12_make.cls ≠ "java/lang/invoke/MethodHandle" ∧ yX12_make.cls ≠ "java/lang/invoke/VarHandle" ∧ (parseMethodDescriptor yX12_make.desc).map (fun d => d.parameters.length) = some 1 := by decide +kernel
theorem hd_X12_moveLive : yX12_moveLive.cls ≠ "java/lang/invoke/MethodHandle" ∧ yX12_moveLive.cls ≠ "java/lang/invoke/VarHandle" ∧ (parseMethodDescriptor yX12_moveLive.desc).map (fun d => d.parameters.length) = some 2 := by decide +kernel
theorem hd_X12_node : yX12_node.cls ≠ "java/lang/invoke/MethodHandle" ∧ yX12_node.cls ≠ "java/lang/invoke/VarHandle" ∧ (parseMethodDescriptor yX12_node.desc).map (fun d => d.parameters.length) = some 2 := by decide +kernel
theorem hd_X12_nodeAt : yX12_nodeAt.cls ≠ "java/lang/invoke/MethodHandle" ∧ yX12_nodeAt.cls ≠ "java/lang/invoke/VarHandle" ∧ (parseMethodDescriptor yX12_nodeAt.desc).map (fun d => d.parameters.length) = some 1 := by decide +kernel
theorem hd_X12_noise : yX12_noise.cls ≠ "java/lang/invoke/MethodHandle" ∧ yX12_noise.cls ≠ "java/lang/invoke/VarHandle" ∧ (parseMethodDescriptor yX12_noise.desc).map (fun d => d.parameters.length) = some 2 := by decide +kernel
theorem hd_X12_nonce : yX12_nonce.cls ≠ "java/lang/invoke/MethodHandle" ∧ yX12_nonce.cls ≠ "java/lang/invoke/VarHandle" ∧ (parseMethodDescriptor yX12_nonce.desc).map (fun d => d.parameters.length) = some 5 := by decide +kernel
theorem hd_X12_nonceOf : yX12_nonceOf.cls ≠ "java/lang/invoke/MethodHandle" ∧ yX12_nonceOf.cls ≠ "java/lang/invoke/VarHandle" ∧ (parseMethodDescriptor yX12_nonceOf.desc).map (fun d => d.parameters.length) = some 3 := by decide +kernel
theorem hd_X12_opens : yX12_opens.cls ≠ "java/lang/invoke/MethodHandle" ∧ yX12_opens.cls ≠ "java/lang/invoke/VarHandle" ∧ (parseMethodDescriptor yX12_opens.desc).map (fun d => d.parameters.length) = some 2 := by decide +kernel
theorem hd_X12_over : yX12_over.cls ≠ "java/lang/invoke/MethodHandle" ∧ yX12_over.cls ≠ "java/lang/invoke/VarHandle" ∧ (parseMethodDescriptor yX12_over.desc).map (fun d => d.parameters.length) = some 1 := by decide +kernel
theorem hd_X12_pairOf : yX12_pairOf.cls ≠ "java/lang/invoke/MethodHandle" ∧ yX12_pairOf.cls ≠ "java/lang/invoke/VarHandle" ∧ (parseMethodDescriptor yX12_pairOf.desc).map (fun d => d.parameters.length) = some 1 := by decide +kernel
theorem hd_X12_partsOf : yX12_partsOf.cls ≠ "java/lang/invoke/MethodHandle" ∧ yX12_partsOf.cls ≠ "java/lang/invoke/VarHandle" ∧ (parseMethodDescriptor yX12_partsOf.desc).map (fun d => d.parameters.length) = some 1 := by decide +kernel
theorem hd_X12_product : yX12_product.cls ≠ "java/lang/invoke/MethodHandle" ∧ yX12_product.cls ≠ "java/lang/invoke/VarHandle" ∧ (parseMethodDescriptor yX12_product.desc).map (fun d => d.parameters.length) = some 2 := by decide +kernel
theorem hd_X12_put : yX12_put.cls ≠ "java/lang/invoke/MethodHandle" ∧ yX12_put.cls ≠ "java/lang/invoke/VarHandle" ∧ (parseMethodDescriptor yX12_put.desc).map (fun d => d.parameters.length) = some 1 := by decide +kernel
theorem hd_X12_putAddress : yX12_putAddress.cls ≠ "java/lang/invoke/MethodHandle" ∧ yX12_putAddress.cls ≠ "java/lang/invoke/VarHandle" ∧ (parseMethodDescriptor yX12_putAddress.desc).map (fun d => d.parameters.length) = some 3 := by decide +kernel
theorem hd_X12_putCheck : yX12_putCheck.cls ≠ "java/lang/invoke/MethodHandle" ∧ yX12_putCheck.cls ≠ "java/lang/invoke/VarHandle" ∧ (parseMethodDescriptor yX12_putCheck.desc).map (fun d => d.parameters.length) = some 3 := by decide +kernel
theorem hd_X12_putLongs : yX12_putLongs.cls ≠ "java/lang/invoke/MethodHandle" ∧ yX12_putLongs.cls ≠ "java/lang/invoke/VarHandle" ∧ (parseMethodDescriptor yX12_putLongs.desc).map (fun d => d.parameters.length) = some 6 := by decide +kernel
theorem hd_X12_seal : yX12_seal.cls ≠ "java/lang/invoke/MethodHandle" ∧ yX12_seal.cls ≠ "java/lang/invoke/VarHandle" ∧ (parseMethodDescriptor yX12_seal.desc).map (fun d => d.parameters.length) = some 4 := by decide +kernel
theorem hd_X12_secret : yX12_secret.cls ≠ "java/lang/invoke/MethodHandle" ∧ yX12_secret.cls ≠ "java/lang/invoke/VarHandle" ∧ (parseMethodDescriptor yX12_secret.desc).map (fun d => d.parameters.length) = some 5 := by decide +kernel
theorem hd_X12_sendsAtHand : yX12_sendsAtHand.cls ≠ "java/lang/invoke/MethodHandle" ∧ yX12_sendsAtHand.cls ≠ "java/lang/invoke/VarHandle" ∧ (parseMethodDescriptor yX12_sendsAtHand.desc).map (fun d => d.parameters.length) = some 1 := by decide +kernel
theorem hd_X12_sendsEnd : yX12_sendsEnd.cls ≠ "java/lang/invoke/MethodHandle" ∧ yX12_sendsEnd.cls ≠ "java/lang/invoke/VarHandle" ∧ (parseMethodDescriptor yX12_sendsEnd.desc).map (fun d => d.parameters.length) = some 3 := by decide +kernel
theorem hd_X12_sendsHand : yX12_sendsHand.cls ≠ "java/lang/invoke/MethodHandle" ∧ yX12_sendsHand.cls ≠ "java/lang/invoke/VarHandle" ∧ (parseMethodDescriptor yX12_sendsHand.desc).map (fun d => d.parameters.length) = some 5 := by decide +kernel
theorem hd_X12_size : yX12_size.cls ≠ "java/lang/invoke/MethodHandle" ∧ yX12_size.cls ≠ "java/lang/invoke/VarHandle" ∧ (parseMethodDescriptor yX12_size.desc).map (fun d => d.parameters.length) = some 1 := by decide +kernel
theorem hd_X12_submit : yX12_submit.cls ≠ "java/lang/invoke/MethodHandle" ∧ yX12_submit.cls ≠ "java/lang/invoke/VarHandle" ∧ (parseMethodDescriptor yX12_submit.desc).map (fun d => d.parameters.length) = some 2 := by decide +kernel
theorem hd_X12_tape : yX12_tape.cls ≠ "java/lang/invoke/MethodHandle" ∧ yX12_tape.cls ≠ "java/lang/invoke/VarHandle" ∧ (parseMethodDescriptor yX12_tape.desc).map (fun d => d.parameters.length) = some 1 := by decide +kernel
theorem hd_X12_turn : yX12_turn.cls ≠ "java/lang/invoke/MethodHandle" ∧ yX12_turn.cls ≠ "java/lang/invoke/VarHandle" ∧ (parseMethodDescriptor yX12_turn.desc).map (fun d => d.parameters.length) = some 2 := by decide +kernel
theorem hd_X12_twice : yX12_twice.cls ≠ "java/lang/invoke/MethodHandle" ∧ yX12_twice.cls ≠ "java/lang/invoke/VarHandle" ∧ (parseMethodDescriptor yX12_twice.desc).map (fun d => d.parameters.length) = some 1 := by decide +kernel
theorem hd_X12_unkey : yX12_unkey.cls ≠ "java/lang/invoke/MethodHandle" ∧ yX12_unkey.cls ≠ "java/lang/invoke/VarHandle" ∧ (parseMethodDescriptor yX12_unkey.desc).map (fun d => d.parameters.length) = some 1 := by decide +kernel
theorem hd_X12_whole : yX12_whole.cls ≠ "java/lang/invoke/MethodHandle" ∧ yX12_whole.cls ≠ "java/lang/invoke/VarHandle" ∧ (parseMethodDescriptor yX12_whole.desc).map (fun d => d.parameters.length) = some 3 := by decide +kernel
theorem hd_X1_addLast : yX1_addLast.cls ≠ "java/lang/invoke/MethodHandle" ∧ yX1_addLast.cls ≠ "java/lang/invoke/VarHandle" ∧ (parseMethodDescriptor yX1_addLast.desc).map (fun d => d.parameters.length) = some 1 := by decide +kernel
theorem hd_X1_init : yX1_init.cls ≠ "java/lang/invoke/MethodHandle" ∧ yX1_init.cls ≠ "java/lang/invoke/VarHandle" ∧ (parseMethodDescriptor yX1_init.desc).map (fun d => d.parameters.length) = some 0 := by decide +kernel
theorem hd_X1_takeFirst : yX1_takeFirst.cls ≠ "java/lang/invoke/MethodHandle" ∧ yX1_takeFirst.cls ≠ "java/lang/invoke/VarHandle" ∧ (parseMethodDescriptor yX1_takeFirst.desc).map (fun d => d.parameters.length) = some 0 := by decide +kernel
theorem hd_X2_crcOf : yX2_crcOf.cls ≠ "java/lang/invoke/MethodHandle" ∧ yX2_crcOf.cls ≠ "java/lang/invoke/VarHandle" ∧ (parseMethodDescriptor yX2_crcOf.desc).map (fun d => d.parameters.length) = some 2 := by decide +kernel
theorem hd_X2_dataFlags : yX2_dataFlags.cls ≠ "java/lang/invoke/MethodHandle" ∧ yX2_dataFlags.cls ≠ "java/lang/invoke/VarHandle" ∧ (parseMethodDescriptor yX2_dataFlags.desc).map (fun d => d.parameters.length) = some 3 := by decide +kernel
theorem hd_X2_handIn : yX2_handIn.cls ≠ "java/lang/invoke/MethodHandle" ∧ yX2_handIn.cls ≠ "java/lang/invoke/VarHandle" ∧ (parseMethodDescriptor yX2_handIn.desc).map (fun d => d.parameters.length) = some 2 := by decide +kernel
theorem hd_X2_hasHead : yX2_hasHead.cls ≠ "java/lang/invoke/MethodHandle" ∧ yX2_hasHead.cls ≠ "java/lang/invoke/VarHandle" ∧ (parseMethodDescriptor yX2_hasHead.desc).map (fun d => d.parameters.length) = some 4 := by decide +kernel
theorem hd_X2_hasRightFcs : yX2_hasRightFcs.cls ≠ "java/lang/invoke/MethodHandle" ∧ yX2_hasRightFcs.cls ≠ "java/lang/invoke/VarHandle" ∧ (parseMethodDescriptor yX2_hasRightFcs.desc).map (fun d => d.parameters.length) = some 2 := by decide +kernel
theorem hd_X2_hasToldControl : yX2_hasToldControl.cls ≠ "java/lang/invoke/MethodHandle" ∧ yX2_hasToldControl.cls ≠ "java/lang/invoke/VarHandle" ∧ (parseMethodDescriptor yX2_hasToldControl.desc).map (fun d => d.parameters.length) = some 2 := by decide +kernel
theorem hd_X2_isTakeable : yX2_isTakeable.cls ≠ "java/lang/invoke/MethodHandle" ∧ yX2_isTakeable.cls ≠ "java/lang/invoke/VarHandle" ∧ (parseMethodDescriptor yX2_isTakeable.desc).map (fun d => d.parameters.length) = some 2 := by decide +kernel
theorem hd_X2_nodeAt : yX2_nodeAt.cls ≠ "java/lang/invoke/MethodHandle" ∧ yX2_nodeAt.cls ≠ "java/lang/invoke/VarHandle" ∧ (parseMethodDescriptor yX2_nodeAt.desc).map (fun d => d.parameters.length) = some 2 := by decide +kernel
theorem hd_X2_sameBytes : yX2_sameBytes.cls ≠ "java/lang/invoke/MethodHandle" ∧ yX2_sameBytes.cls ≠ "java/lang/invoke/VarHandle" ∧ (parseMethodDescriptor yX2_sameBytes.desc).map (fun d => d.parameters.length) = some 5 := by decide +kernel
theorem hd_X2_sealNumber : yX2_sealNumber.cls ≠ "java/lang/invoke/MethodHandle" ∧ yX2_sealNumber.cls ≠ "java/lang/invoke/VarHandle" ∧ (parseMethodDescriptor yX2_sealNumber.desc).map (fun d => d.parameters.length) = some 1 := by decide +kernel
theorem hd_X2_writeAddress : yX2_writeAddress.cls ≠ "java/lang/invoke/MethodHandle" ∧ yX2_writeAddress.cls ≠ "java/lang/invoke/VarHandle" ∧ (parseMethodDescriptor yX2_writeAddress.desc).map (fun d => d.parameters.length) = some 3 := by decide +kernel
theorem hd_X2_writeBody : yX2_writeBody.cls ≠ "java/lang/invoke/MethodHandle" ∧ yX2_writeBody.cls ≠ "java/lang/invoke/VarHandle" ∧ (parseMethodDescriptor yX2_writeBody.desc).map (fun d => d.parameters.length) = some 3 := by decide +kernel
theorem hd_X2_writeFcs : yX2_writeFcs.cls ≠ "java/lang/invoke/MethodHandle" ∧ yX2_writeFcs.cls ≠ "java/lang/invoke/VarHandle" ∧ (parseMethodDescriptor yX2_writeFcs.desc).map (fun d => d.parameters.length) = some 2 := by decide +kernel
theorem hd_X2_writeHead : yX2_writeHead.cls ≠ "java/lang/invoke/MethodHandle" ∧ yX2_writeHead.cls ≠ "java/lang/invoke/VarHandle" ∧ (parseMethodDescriptor yX2_writeHead.desc).map (fun d => d.parameters.length) = some 3 := by decide +kernel
theorem hd_X2_writeHeader : yX2_writeHeader.cls ≠ "java/lang/invoke/MethodHandle" ∧ yX2_writeHeader.cls ≠ "java/lang/invoke/VarHandle" ∧ (parseMethodDescriptor yX2_writeHeader.desc).map (fun d => d.parameters.length) = some 4 := by decide +kernel
theorem hd_X2_writeHighestFirst : yX2_writeHighestFirst.cls ≠ "java/lang/invoke/MethodHandle" ∧ yX2_writeHighestFirst.cls ≠ "java/lang/invoke/VarHandle" ∧ (parseMethodDescriptor yX2_writeHighestFirst.desc).map (fun d => d.parameters.length) = some 4 := by decide +kernel
theorem hd_X2_writeSealHeader : yX2_writeSealHeader.cls ≠ "java/lang/invoke/MethodHandle" ∧ yX2_writeSealHeader.cls ≠ "java/lang/invoke/VarHandle" ∧ (parseMethodDescriptor yX2_writeSealHeader.desc).map (fun d => d.parameters.length) = some 2 := by decide +kernel
theorem hd_X3_addLast : yX3_addLast.cls ≠ "java/lang/invoke/MethodHandle" ∧ yX3_addLast.cls ≠ "java/lang/invoke/VarHandle" ∧ (parseMethodDescriptor yX3_addLast.desc).map (fun d => d.parameters.length) = some 3 := by decide +kernel
theorem hd_X3_detail : yX3_detail.cls ≠ "java/lang/invoke/MethodHandle" ∧ yX3_detail.cls ≠ "java/lang/invoke/VarHandle" ∧ (parseMethodDescriptor yX3_detail.desc).map (fun d => d.parameters.length) = some 2 := by decide +kernel
theorem hd_X3_init : yX3_init.cls ≠ "java/lang/invoke/MethodHandle" ∧ yX3_init.cls ≠ "java/lang/invoke/VarHandle" ∧ (parseMethodDescriptor yX3_init.desc).map (fun d => d.parameters.length) = some 0 := by decide +kernel
theorem hd_X4_addPart : yX4_addPart.cls ≠ "java/lang/invoke/MethodHandle" ∧ yX4_addPart.cls ≠ "java/lang/invoke/VarHandle" ∧ (parseMethodDescriptor yX4_addPart.desc).map (fun d => d.parameters.length) = some 3 := by decide +kernel
theorem hd_X4_init : yX4_init.cls ≠ "java/lang/invoke/MethodHandle" ∧ yX4_init.cls ≠ "java/lang/invoke/VarHandle" ∧ (parseMethodDescriptor yX4_init.desc).map (fun d => d.parameters.length) = some 0 := by decide +kernel
theorem hd_X4_keepTried : yX4_keepTried.cls ≠ "java/lang/invoke/MethodHandle" ∧ yX4_keepTried.cls ≠ "java/lang/invoke/VarHandle" ∧ (parseMethodDescriptor yX4_keepTried.desc).map (fun d => d.parameters.length) = some 1 := by decide +kernel
theorem hd_X4_keyByTried : yX4_keyByTried.cls ≠ "java/lang/invoke/MethodHandle" ∧ yX4_keyByTried.cls ≠ "java/lang/invoke/VarHandle" ∧ (parseMethodDescriptor yX4_keyByTried.desc).map (fun d => d.parameters.length) = some 0 := by decide +kernel
theorem hd_X4_loseKey : yX4_loseKey.cls ≠ "java/lang/invoke/MethodHandle" ∧ yX4_loseKey.cls ≠ "java/lang/invoke/VarHandle" ∧ (parseMethodDescriptor yX4_loseKey.desc).map (fun d => d.parameters.length) = some 1 := by decide +kernel
theorem hd_X5_addNoise : yX5_addNoise.cls ≠ "java/lang/invoke/MethodHandle" ∧ yX5_addNoise.cls ≠ "java/lang/invoke/VarHandle" ∧ (parseMethodDescriptor yX5_addNoise.desc).map (fun d => d.parameters.length) = some 2 := by decide +kernel
theorem hd_X5_begin : yX5_begin.cls ≠ "java/lang/invoke/MethodHandle" ∧ yX5_begin.cls ≠ "java/lang/invoke/VarHandle" ∧ (parseMethodDescriptor yX5_begin.desc).map (fun d => d.parameters.length) = some 3 := by decide +kernel
theorem hd_X5_closeBeginnings : yX5_closeBeginnings.cls ≠ "java/lang/invoke/MethodHandle" ∧ yX5_closeBeginnings.cls ≠ "java/lang/invoke/VarHandle" ∧ (parseMethodDescriptor yX5_closeBeginnings.desc).map (fun d => d.parameters.length) = some 0 := by decide +kernel
theorem hd_X5_closeEndings : yX5_closeEndings.cls ≠ "java/lang/invoke/MethodHandle" ∧ yX5_closeEndings.cls ≠ "java/lang/invoke/VarHandle" ∧ (parseMethodDescriptor yX5_closeEndings.desc).map (fun d => d.parameters.length) = some 0 := by decide +kernel
theorem hd_X5_detail : yX5_detail.cls ≠ "java/lang/invoke/MethodHandle" ∧ yX5_detail.cls ≠ "java/lang/invoke/VarHandle" ∧ (parseMethodDescriptor yX5_detail.desc).map (fun d => d.parameters.length) = some 2 := by decide +kernel
theorem hd_X5_init : yX5_init.cls ≠ "java/lang/invoke/MethodHandle" ∧ yX5_init.cls ≠ "java/lang/invoke/VarHandle" ∧ (parseMethodDescriptor yX5_init.desc).map (fun d => d.parameters.length) = some 0 := by decide +kernel
theorem hd_X5_isNoisy : yX5_isNoisy.cls ≠ "java/lang/invoke/MethodHandle" ∧ yX5_isNoisy.cls ≠ "java/lang/invoke/VarHandle" ∧ (parseMethodDescriptor yX5_isNoisy.desc).map (fun d => d.parameters.length) = some 0 := by decide +kernel
theorem hd_X5_isQuietSince : yX5_isQuietSince.cls ≠ "java/lang/invoke/MethodHandle" ∧ yX5_isQuietSince.cls ≠ "java/lang/invoke/VarHandle" ∧ (parseMethodDescriptor yX5_isQuietSince.desc).map (fun d => d.parameters.length) = some 0 := by decide +kernel
theorem hd_X5_newestBytes : yX5_newestBytes.cls ≠ "java/lang/invoke/MethodHandle" ∧ yX5_newestBytes.cls ≠ "java/lang/invoke/VarHandle" ∧ (parseMethodDescriptor yX5_newestBytes.desc).map (fun d => d.parameters.length) = some 0 := by decide +kernel
theorem hd_X5_newestLength : yX5_newestLength.cls ≠ "java/lang/invoke/MethodHandle" ∧ yX5_newestLength.cls ≠ "java/lang/invoke/VarHandle" ∧ (parseMethodDescriptor yX5_newestLength.desc).map (fun d => d.parameters.length) = some 0 := by decide +kernel
theorem hd_X5_newestSender : yX5_newestSender.cls ≠ "java/lang/invoke/MethodHandle" ∧ yX5_newestSender.cls ≠ "java/lang/invoke/VarHandle" ∧ (parseMethodDescriptor yX5_newestSender.desc).map (fun d => d.parameters.length) = some 0 := by decide +kernel
theorem hd_X5_passQuiet : yX5_passQuiet.cls ≠ "java/lang/invoke/MethodHandle" ∧ yX5_passQuiet.cls ≠ "java/lang/invoke/VarHandle" ∧ (parseMethodDescriptor yX5_passQuiet.desc).map (fun d => d.parameters.length) = some 1 := by decide +kernel
theorem hd_X5_rowOf : yX5_rowOf.cls ≠ "java/lang/invoke/MethodHandle" ∧ yX5_rowOf.cls ≠ "java/lang/invoke/VarHandle" ∧ (parseMethodDescriptor yX5_rowOf.desc).map (fun d => d.parameters.length) = some 1 := by decide +kernel
theorem hd_X5_slotsOf : yX5_slotsOf.cls ≠ "java/lang/invoke/MethodHandle" ∧ yX5_slotsOf.cls ≠ "java/lang/invoke/VarHandle" ∧ (parseMethodDescriptor yX5_slotsOf.desc).map (fun d => d.parameters.length) = some 1 := by decide +kernel
theorem hd_X5_spoilAll : yX5_spoilAll.cls ≠ "java/lang/invoke/MethodHandle" ∧ yX5_spoilAll.cls ≠ "java/lang/invoke/VarHandle" ∧ (parseMethodDescriptor yX5_spoilAll.desc).map (fun d => d.parameters.length) = some 0 := by decide +kernel
theorem hd_X6_init : yX6_init.cls ≠ "java/lang/invoke/MethodHandle" ∧ yX6_init.cls ≠ "java/lang/invoke/VarHandle" ∧ (parseMethodDescriptor yX6_init.desc).map (fun d => d.parameters.length) = some 0 := by decide +kernel
theorem hd_X7_contends : yX7_contends.cls ≠ "java/lang/invoke/MethodHandle" ∧ yX7_contends.cls ≠ "java/lang/invoke/VarHandle" ∧ (parseMethodDescriptor yX7_contends.desc).map (fun d => d.parameters.length) = some 1 := by decide +kernel
theorem hd_X7_dropsAgain : yX7_dropsAgain.cls ≠ "java/lang/invoke/MethodHandle" ∧ yX7_dropsAgain.cls ≠ "java/lang/invoke/VarHandle" ∧ (parseMethodDescriptor yX7_dropsAgain.desc).map (fun d => d.parameters.length) = some 2 := by decide +kernel
theorem hd_X7_init : yX7_init.cls ≠ "java/lang/invoke/MethodHandle" ∧ yX7_init.cls ≠ "java/lang/invoke/VarHandle" ∧ (parseMethodDescriptor yX7_init.desc).map (fun d => d.parameters.length) = some 1 := by decide +kernel
theorem hd_X8_addLast : yX8_addLast.cls ≠ "java/lang/invoke/MethodHandle" ∧ yX8_addLast.cls ≠ "java/lang/invoke/VarHandle" ∧ (parseMethodDescriptor yX8_addLast.desc).map (fun d => d.parameters.length) = some 3 := by decide +kernel
theorem hd_X8_begin : yX8_begin.cls ≠ "java/lang/invoke/MethodHandle" ∧ yX8_begin.cls ≠ "java/lang/invoke/VarHandle" ∧ (parseMethodDescriptor yX8_begin.desc).map (fun d => d.parameters.length) = some 1 := by decide +kernel
theorem hd_X8_init : yX8_init.cls ≠ "java/lang/invoke/MethodHandle" ∧ yX8_init.cls ≠ "java/lang/invoke/VarHandle" ∧ (parseMethodDescriptor yX8_init.desc).map (fun d => d.parameters.length) = some 0 := by decide +kernel
theorem hd_X8_moveUp : yX8_moveUp.cls ≠ "java/lang/invoke/MethodHandle" ∧ yX8_moveUp.cls ≠ "java/lang/invoke/VarHandle" ∧ (parseMethodDescriptor yX8_moveUp.desc).map (fun d => d.parameters.length) = some 2 := by decide +kernel
theorem hd_X8_slotsAhead : yX8_slotsAhead.cls ≠ "java/lang/invoke/MethodHandle" ∧ yX8_slotsAhead.cls ≠ "java/lang/invoke/VarHandle" ∧ (parseMethodDescriptor yX8_slotsAhead.desc).map (fun d => d.parameters.length) = some 2 := by decide +kernel
theorem hd_X9_addLast : yX9_addLast.cls ≠ "java/lang/invoke/MethodHandle" ∧ yX9_addLast.cls ≠ "java/lang/invoke/VarHandle" ∧ (parseMethodDescriptor yX9_addLast.desc).map (fun d => d.parameters.length) = some 0 := by decide +kernel
theorem hd_X9_first : yX9_first.cls ≠ "java/lang/invoke/MethodHandle" ∧ yX9_first.cls ≠ "java/lang/invoke/VarHandle" ∧ (parseMethodDescriptor yX9_first.desc).map (fun d => d.parameters.length) = some 0 := by decide +kernel
theorem hd_X9_init : yX9_init.cls ≠ "java/lang/invoke/MethodHandle" ∧ yX9_init.cls ≠ "java/lang/invoke/VarHandle" ∧ (parseMethodDescriptor yX9_init.desc).map (fun d => d.parameters.length) = some 0 := by decide +kernel
theorem hd_X9_removeFirst : yX9_removeFirst.cls ≠ "java/lang/invoke/MethodHandle" ∧ yX9_removeFirst.cls ≠ "java/lang/invoke/VarHandle" ∧ (parseMethodDescriptor yX9_removeFirst.desc).map (fun d => d.parameters.length) = some 0 := by decide +kernel
