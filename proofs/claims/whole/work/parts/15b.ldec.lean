/-! the law's instructions -/
theorem dL_request_0 : decode cL_request 0 = .ok (.aload 5, 2) := by decide +kernel
theorem dL_request_2 : decode cL_request 2 = .ok (.iconst 0, 1) := by decide +kernel
theorem dL_request_3 : decode cL_request 3 = .ok (.aload_n 0, 1) := by decide +kernel
theorem dL_request_4 : decode cL_request 4 = .ok (.iload_n 1, 1) := by decide +kernel
theorem dL_request_5 : decode cL_request 5 = .ok (.iload_n 2, 1) := by decide +kernel
theorem dL_request_6 : decode cL_request 6 = .ok (.iload_n 3, 1) := by decide +kernel
theorem dL_request_7 : decode cL_request 7 = .ok (.iload 4, 2) := by decide +kernel
theorem dL_request_9 : decode cL_request 9 = .ok (.invokevirtual 7, 3) := by decide +kernel
theorem dL_request_12 : decode cL_request 12 = .ok (.i2l, 1) := by decide +kernel
theorem dL_request_13 : decode cL_request 13 = .ok (.lastore, 1) := by decide +kernel
theorem dL_request_14 : decode cL_request 14 = .ok (.goto 11, 3) := by decide +kernel
theorem dL_request_17 : decode cL_request 17 = .ok (.astore 6, 2) := by decide +kernel
theorem dL_request_19 : decode cL_request 19 = .ok (.iconst 1, 1) := by decide +kernel
theorem dL_request_20 : decode cL_request 20 = .ok (.ireturn, 1) := by decide +kernel
theorem dL_request_21 : decode cL_request 21 = .ok (.astore 6, 2) := by decide +kernel
theorem dL_request_23 : decode cL_request 23 = .ok (.iconst 2, 1) := by decide +kernel
theorem dL_request_24 : decode cL_request 24 = .ok (.ireturn, 1) := by decide +kernel
theorem dL_request_25 : decode cL_request 25 = .ok (.iconst 0, 1) := by decide +kernel
theorem dL_request_26 : decode cL_request 26 = .ok (.ireturn, 1) := by decide +kernel
theorem dL_bring_0 : decode cL_bring 0 = .ok (.aload_n 3, 1) := by decide +kernel
theorem dL_bring_1 : decode cL_bring 1 = .ok (.iconst 0, 1) := by decide +kernel
theorem dL_bring_2 : decode cL_bring 2 = .ok (.aload_n 0, 1) := by decide +kernel
theorem dL_bring_3 : decode cL_bring 3 = .ok (.iload_n 1, 1) := by decide +kernel
theorem dL_bring_4 : decode cL_bring 4 = .ok (.iload_n 2, 1) := by decide +kernel
theorem dL_bring_5 : decode cL_bring 5 = .ok (.invokevirtual 17, 3) := by decide +kernel
theorem dL_bring_8 : decode cL_bring 8 = .ok (.i2l, 1) := by decide +kernel
theorem dL_bring_9 : decode cL_bring 9 = .ok (.lastore, 1) := by decide +kernel
theorem dL_bring_10 : decode cL_bring 10 = .ok (.goto 7, 3) := by decide +kernel
theorem dL_bring_13 : decode cL_bring 13 = .ok (.astore 4, 2) := by decide +kernel
theorem dL_bring_15 : decode cL_bring 15 = .ok (.iconst 1, 1) := by decide +kernel
theorem dL_bring_16 : decode cL_bring 16 = .ok (.ireturn, 1) := by decide +kernel
theorem dL_bring_17 : decode cL_bring 17 = .ok (.iconst 0, 1) := by decide +kernel
theorem dL_bring_18 : decode cL_bring 18 = .ok (.ireturn, 1) := by decide +kernel
theorem dL_send_0 : decode cL_send 0 = .ok (.aload 4, 2) := by decide +kernel
theorem dL_send_2 : decode cL_send 2 = .ok (.iconst 0, 1) := by decide +kernel
theorem dL_send_3 : decode cL_send 3 = .ok (.aload_n 0, 1) := by decide +kernel
theorem dL_send_4 : decode cL_send 4 = .ok (.iload_n 1, 1) := by decide +kernel
theorem dL_send_5 : decode cL_send 5 = .ok (.iload_n 2, 1) := by decide +kernel
theorem dL_send_6 : decode cL_send 6 = .ok (.iload_n 3, 1) := by decide +kernel
theorem dL_send_7 : decode cL_send 7 = .ok (.invokevirtual 23, 3) := by decide +kernel
theorem dL_send_10 : decode cL_send 10 = .ok (.i2l, 1) := by decide +kernel
theorem dL_send_11 : decode cL_send 11 = .ok (.lastore, 1) := by decide +kernel
theorem dL_send_12 : decode cL_send 12 = .ok (.goto 11, 3) := by decide +kernel
theorem dL_send_15 : decode cL_send 15 = .ok (.astore 5, 2) := by decide +kernel
theorem dL_send_17 : decode cL_send 17 = .ok (.iconst 1, 1) := by decide +kernel
theorem dL_send_18 : decode cL_send 18 = .ok (.ireturn, 1) := by decide +kernel
theorem dL_send_19 : decode cL_send 19 = .ok (.astore 5, 2) := by decide +kernel
theorem dL_send_21 : decode cL_send 21 = .ok (.iconst 2, 1) := by decide +kernel
theorem dL_send_22 : decode cL_send 22 = .ok (.ireturn, 1) := by decide +kernel
theorem dL_send_23 : decode cL_send 23 = .ok (.iconst 0, 1) := by decide +kernel
theorem dL_send_24 : decode cL_send 24 = .ok (.ireturn, 1) := by decide +kernel
theorem dL_late_0 : decode cL_late 0 = .ok (.aload_n 2, 1) := by decide +kernel
theorem dL_late_1 : decode cL_late 1 = .ok (.iconst 0, 1) := by decide +kernel
theorem dL_late_2 : decode cL_late 2 = .ok (.aload_n 0, 1) := by decide +kernel
theorem dL_late_3 : decode cL_late 3 = .ok (.iload_n 1, 1) := by decide +kernel
theorem dL_late_4 : decode cL_late 4 = .ok (.invokevirtual 27, 3) := by decide +kernel
theorem dL_late_7 : decode cL_late 7 = .ok (.i2l, 1) := by decide +kernel
theorem dL_late_8 : decode cL_late 8 = .ok (.lastore, 1) := by decide +kernel
theorem dL_late_9 : decode cL_late 9 = .ok (.goto 6, 3) := by decide +kernel
theorem dL_late_12 : decode cL_late 12 = .ok (.astore_n 3, 1) := by decide +kernel
theorem dL_late_13 : decode cL_late 13 = .ok (.iconst 1, 1) := by decide +kernel
theorem dL_late_14 : decode cL_late 14 = .ok (.ireturn, 1) := by decide +kernel
theorem dL_late_15 : decode cL_late 15 = .ok (.iconst 0, 1) := by decide +kernel
theorem dL_late_16 : decode cL_late 16 = .ok (.ireturn, 1) := by decide +kernel
theorem dL_ask_0 : decode cL_ask 0 = .ok (.aload_n 3, 1) := by decide +kernel
theorem dL_ask_1 : decode cL_ask 1 = .ok (.iconst 0, 1) := by decide +kernel
theorem dL_ask_2 : decode cL_ask 2 = .ok (.aload_n 0, 1) := by decide +kernel
theorem dL_ask_3 : decode cL_ask 3 = .ok (.iload_n 1, 1) := by decide +kernel
theorem dL_ask_4 : decode cL_ask 4 = .ok (.iload_n 2, 1) := by decide +kernel
theorem dL_ask_5 : decode cL_ask 5 = .ok (.invokevirtual 31, 3) := by decide +kernel
theorem dL_ask_8 : decode cL_ask 8 = .ok (.i2l, 1) := by decide +kernel
theorem dL_ask_9 : decode cL_ask 9 = .ok (.lastore, 1) := by decide +kernel
theorem dL_ask_10 : decode cL_ask 10 = .ok (.goto 11, 3) := by decide +kernel
theorem dL_ask_13 : decode cL_ask 13 = .ok (.astore 4, 2) := by decide +kernel
theorem dL_ask_15 : decode cL_ask 15 = .ok (.iconst 1, 1) := by decide +kernel
theorem dL_ask_16 : decode cL_ask 16 = .ok (.ireturn, 1) := by decide +kernel
theorem dL_ask_17 : decode cL_ask 17 = .ok (.astore 4, 2) := by decide +kernel
theorem dL_ask_19 : decode cL_ask 19 = .ok (.iconst 2, 1) := by decide +kernel
theorem dL_ask_20 : decode cL_ask 20 = .ok (.ireturn, 1) := by decide +kernel
theorem dL_ask_21 : decode cL_ask 21 = .ok (.iconst 0, 1) := by decide +kernel
theorem dL_ask_22 : decode cL_ask 22 = .ok (.ireturn, 1) := by decide +kernel
theorem dL_reply_0 : decode cL_reply 0 = .ok (.aload_n 3, 1) := by decide +kernel
theorem dL_reply_1 : decode cL_reply 1 = .ok (.iconst 0, 1) := by decide +kernel
theorem dL_reply_2 : decode cL_reply 2 = .ok (.aload_n 0, 1) := by decide +kernel
theorem dL_reply_3 : decode cL_reply 3 = .ok (.iload_n 1, 1) := by decide +kernel
theorem dL_reply_4 : decode cL_reply 4 = .ok (.iload_n 2, 1) := by decide +kernel
theorem dL_reply_5 : decode cL_reply 5 = .ok (.invokevirtual 34, 3) := by decide +kernel
theorem dL_reply_8 : decode cL_reply 8 = .ok (.i2l, 1) := by decide +kernel
theorem dL_reply_9 : decode cL_reply 9 = .ok (.lastore, 1) := by decide +kernel
theorem dL_reply_10 : decode cL_reply 10 = .ok (.goto 7, 3) := by decide +kernel
theorem dL_reply_13 : decode cL_reply 13 = .ok (.astore 4, 2) := by decide +kernel
theorem dL_reply_15 : decode cL_reply 15 = .ok (.iconst 1, 1) := by decide +kernel
theorem dL_reply_16 : decode cL_reply 16 = .ok (.ireturn, 1) := by decide +kernel
theorem dL_reply_17 : decode cL_reply 17 = .ok (.iconst 0, 1) := by decide +kernel
theorem dL_reply_18 : decode cL_reply 18 = .ok (.ireturn, 1) := by decide +kernel
theorem dL_lie_0 : decode cL_lie 0 = .ok (.aload_n 2, 1) := by decide +kernel
theorem dL_lie_1 : decode cL_lie 1 = .ok (.iconst 0, 1) := by decide +kernel
theorem dL_lie_2 : decode cL_lie 2 = .ok (.aload_n 0, 1) := by decide +kernel
theorem dL_lie_3 : decode cL_lie 3 = .ok (.iload_n 1, 1) := by decide +kernel
theorem dL_lie_4 : decode cL_lie 4 = .ok (.invokevirtual 37, 3) := by decide +kernel
theorem dL_lie_7 : decode cL_lie 7 = .ok (.ifCond .eq 7, 3) := by decide +kernel
theorem dL_lie_10 : decode cL_lie 10 = .ok (.lconst 1, 1) := by decide +kernel
theorem dL_lie_11 : decode cL_lie 11 = .ok (.goto 4, 3) := by decide +kernel
theorem dL_lie_14 : decode cL_lie 14 = .ok (.lconst 0, 1) := by decide +kernel
theorem dL_lie_15 : decode cL_lie 15 = .ok (.lastore, 1) := by decide +kernel
theorem dL_lie_16 : decode cL_lie 16 = .ok (.goto 6, 3) := by decide +kernel
theorem dL_lie_19 : decode cL_lie 19 = .ok (.astore_n 3, 1) := by decide +kernel
theorem dL_lie_20 : decode cL_lie 20 = .ok (.iconst 1, 1) := by decide +kernel
theorem dL_lie_21 : decode cL_lie 21 = .ok (.ireturn, 1) := by decide +kernel
theorem dL_lie_22 : decode cL_lie 22 = .ok (.iconst 0, 1) := by decide +kernel
theorem dL_lie_23 : decode cL_lie 23 = .ok (.ireturn, 1) := by decide +kernel
theorem dL_certify_0 : decode cL_certify 0 = .ok (.aload 6, 2) := by decide +kernel
theorem dL_certify_2 : decode cL_certify 2 = .ok (.iconst 0, 1) := by decide +kernel
theorem dL_certify_3 : decode cL_certify 3 = .ok (.aload_n 0, 1) := by decide +kernel
theorem dL_certify_4 : decode cL_certify 4 = .ok (.iload_n 1, 1) := by decide +kernel
theorem dL_certify_5 : decode cL_certify 5 = .ok (.iload_n 2, 1) := by decide +kernel
theorem dL_certify_6 : decode cL_certify 6 = .ok (.iload_n 3, 1) := by decide +kernel
theorem dL_certify_7 : decode cL_certify 7 = .ok (.iload 4, 2) := by decide +kernel
theorem dL_certify_9 : decode cL_certify 9 = .ok (.iload 5, 2) := by decide +kernel
theorem dL_certify_11 : decode cL_certify 11 = .ok (.invokevirtual 41, 3) := by decide +kernel
theorem dL_certify_14 : decode cL_certify 14 = .ok (.i2l, 1) := by decide +kernel
theorem dL_certify_15 : decode cL_certify 15 = .ok (.lastore, 1) := by decide +kernel
theorem dL_certify_16 : decode cL_certify 16 = .ok (.goto 15, 3) := by decide +kernel
theorem dL_certify_19 : decode cL_certify 19 = .ok (.astore 7, 2) := by decide +kernel
theorem dL_certify_21 : decode cL_certify 21 = .ok (.iconst 1, 1) := by decide +kernel
theorem dL_certify_22 : decode cL_certify 22 = .ok (.ireturn, 1) := by decide +kernel
theorem dL_certify_23 : decode cL_certify 23 = .ok (.astore 7, 2) := by decide +kernel
theorem dL_certify_25 : decode cL_certify 25 = .ok (.iconst 2, 1) := by decide +kernel
theorem dL_certify_26 : decode cL_certify 26 = .ok (.ireturn, 1) := by decide +kernel
theorem dL_certify_27 : decode cL_certify 27 = .ok (.astore 7, 2) := by decide +kernel
theorem dL_certify_29 : decode cL_certify 29 = .ok (.iconst 3, 1) := by decide +kernel
theorem dL_certify_30 : decode cL_certify 30 = .ok (.ireturn, 1) := by decide +kernel
theorem dL_certify_31 : decode cL_certify 31 = .ok (.iconst 0, 1) := by decide +kernel
theorem dL_certify_32 : decode cL_certify 32 = .ok (.ireturn, 1) := by decide +kernel
theorem dL_askFor_0 : decode cL_askFor 0 = .ok (.aload_n 0, 1) := by decide +kernel
theorem dL_askFor_1 : decode cL_askFor 1 = .ok (.iload_n 1, 1) := by decide +kernel
theorem dL_askFor_2 : decode cL_askFor 2 = .ok (.iload_n 2, 1) := by decide +kernel
theorem dL_askFor_3 : decode cL_askFor 3 = .ok (.invokevirtual 45, 3) := by decide +kernel
theorem dL_askFor_6 : decode cL_askFor 6 = .ok (.goto 12, 3) := by decide +kernel
theorem dL_askFor_9 : decode cL_askFor 9 = .ok (.astore_n 3, 1) := by decide +kernel
theorem dL_askFor_10 : decode cL_askFor 10 = .ok (.iconst 1, 1) := by decide +kernel
theorem dL_askFor_11 : decode cL_askFor 11 = .ok (.ireturn, 1) := by decide +kernel
theorem dL_askFor_12 : decode cL_askFor 12 = .ok (.astore_n 3, 1) := by decide +kernel
theorem dL_askFor_13 : decode cL_askFor 13 = .ok (.iconst 2, 1) := by decide +kernel
theorem dL_askFor_14 : decode cL_askFor 14 = .ok (.ireturn, 1) := by decide +kernel
theorem dL_askFor_15 : decode cL_askFor 15 = .ok (.astore_n 3, 1) := by decide +kernel
theorem dL_askFor_16 : decode cL_askFor 16 = .ok (.iconst 3, 1) := by decide +kernel
theorem dL_askFor_17 : decode cL_askFor 17 = .ok (.ireturn, 1) := by decide +kernel
theorem dL_askFor_18 : decode cL_askFor 18 = .ok (.iconst 0, 1) := by decide +kernel
theorem dL_askFor_19 : decode cL_askFor 19 = .ok (.ireturn, 1) := by decide +kernel
theorem dL_replyWith_0 : decode cL_replyWith 0 = .ok (.aload_n 0, 1) := by decide +kernel
theorem dL_replyWith_1 : decode cL_replyWith 1 = .ok (.iload_n 1, 1) := by decide +kernel
theorem dL_replyWith_2 : decode cL_replyWith 2 = .ok (.iload_n 2, 1) := by decide +kernel
theorem dL_replyWith_3 : decode cL_replyWith 3 = .ok (.iload_n 3, 1) := by decide +kernel
theorem dL_replyWith_4 : decode cL_replyWith 4 = .ok (.invokevirtual 49, 3) := by decide +kernel
theorem dL_replyWith_7 : decode cL_replyWith 7 = .ok (.goto 11, 3) := by decide +kernel
theorem dL_replyWith_10 : decode cL_replyWith 10 = .ok (.astore 4, 2) := by decide +kernel
theorem dL_replyWith_12 : decode cL_replyWith 12 = .ok (.iconst 1, 1) := by decide +kernel
theorem dL_replyWith_13 : decode cL_replyWith 13 = .ok (.ireturn, 1) := by decide +kernel
theorem dL_replyWith_14 : decode cL_replyWith 14 = .ok (.astore 4, 2) := by decide +kernel
theorem dL_replyWith_16 : decode cL_replyWith 16 = .ok (.iconst 2, 1) := by decide +kernel
theorem dL_replyWith_17 : decode cL_replyWith 17 = .ok (.ireturn, 1) := by decide +kernel
theorem dL_replyWith_18 : decode cL_replyWith 18 = .ok (.iconst 0, 1) := by decide +kernel
theorem dL_replyWith_19 : decode cL_replyWith 19 = .ok (.ireturn, 1) := by decide +kernel
theorem dL_state_0 : decode cL_state 0 = .ok (.aload_n 3, 1) := by decide +kernel
theorem dL_state_1 : decode cL_state 1 = .ok (.iconst 0, 1) := by decide +kernel
theorem dL_state_2 : decode cL_state 2 = .ok (.aload_n 0, 1) := by decide +kernel
theorem dL_state_3 : decode cL_state 3 = .ok (.iload_n 1, 1) := by decide +kernel
theorem dL_state_4 : decode cL_state 4 = .ok (.iload_n 2, 1) := by decide +kernel
theorem dL_state_5 : decode cL_state 5 = .ok (.invokevirtual 53, 3) := by decide +kernel
theorem dL_state_8 : decode cL_state 8 = .ok (.i2l, 1) := by decide +kernel
theorem dL_state_9 : decode cL_state 9 = .ok (.lastore, 1) := by decide +kernel
theorem dL_state_10 : decode cL_state 10 = .ok (.goto 11, 3) := by decide +kernel
theorem dL_state_13 : decode cL_state 13 = .ok (.astore 4, 2) := by decide +kernel
theorem dL_state_15 : decode cL_state 15 = .ok (.iconst 1, 1) := by decide +kernel
theorem dL_state_16 : decode cL_state 16 = .ok (.ireturn, 1) := by decide +kernel
theorem dL_state_17 : decode cL_state 17 = .ok (.astore 4, 2) := by decide +kernel
theorem dL_state_19 : decode cL_state 19 = .ok (.iconst 2, 1) := by decide +kernel
theorem dL_state_20 : decode cL_state 20 = .ok (.ireturn, 1) := by decide +kernel
theorem dL_state_21 : decode cL_state 21 = .ok (.iconst 0, 1) := by decide +kernel
theorem dL_state_22 : decode cL_state 22 = .ok (.ireturn, 1) := by decide +kernel
theorem dL_history_0 : decode cL_history 0 = .ok (.aload_n 3, 1) := by decide +kernel
theorem dL_history_1 : decode cL_history 1 = .ok (.iconst 0, 1) := by decide +kernel
theorem dL_history_2 : decode cL_history 2 = .ok (.aload_n 0, 1) := by decide +kernel
theorem dL_history_3 : decode cL_history 3 = .ok (.iload_n 1, 1) := by decide +kernel
theorem dL_history_4 : decode cL_history 4 = .ok (.iload_n 2, 1) := by decide +kernel
theorem dL_history_5 : decode cL_history 5 = .ok (.invokevirtual 56, 3) := by decide +kernel
theorem dL_history_8 : decode cL_history 8 = .ok (.i2l, 1) := by decide +kernel
theorem dL_history_9 : decode cL_history 9 = .ok (.lastore, 1) := by decide +kernel
theorem dL_history_10 : decode cL_history 10 = .ok (.goto 7, 3) := by decide +kernel
theorem dL_history_13 : decode cL_history 13 = .ok (.astore 4, 2) := by decide +kernel
theorem dL_history_15 : decode cL_history 15 = .ok (.iconst 1, 1) := by decide +kernel
theorem dL_history_16 : decode cL_history 16 = .ok (.ireturn, 1) := by decide +kernel
theorem dL_history_17 : decode cL_history 17 = .ok (.iconst 0, 1) := by decide +kernel
theorem dL_history_18 : decode cL_history 18 = .ok (.ireturn, 1) := by decide +kernel
theorem dL_message_0 : decode cL_message 0 = .ok (.aload 4, 2) := by decide +kernel
theorem dL_message_2 : decode cL_message 2 = .ok (.iconst 0, 1) := by decide +kernel
theorem dL_message_3 : decode cL_message 3 = .ok (.aload_n 0, 1) := by decide +kernel
theorem dL_message_4 : decode cL_message 4 = .ok (.iload_n 1, 1) := by decide +kernel
theorem dL_message_5 : decode cL_message 5 = .ok (.iload_n 2, 1) := by decide +kernel
theorem dL_message_6 : decode cL_message 6 = .ok (.iload_n 3, 1) := by decide +kernel
theorem dL_message_7 : decode cL_message 7 = .ok (.invokevirtual 59, 3) := by decide +kernel
theorem dL_message_10 : decode cL_message 10 = .ok (.i2l, 1) := by decide +kernel
theorem dL_message_11 : decode cL_message 11 = .ok (.lastore, 1) := by decide +kernel
theorem dL_message_12 : decode cL_message 12 = .ok (.goto 11, 3) := by decide +kernel
theorem dL_message_15 : decode cL_message 15 = .ok (.astore 5, 2) := by decide +kernel
theorem dL_message_17 : decode cL_message 17 = .ok (.iconst 1, 1) := by decide +kernel
theorem dL_message_18 : decode cL_message 18 = .ok (.ireturn, 1) := by decide +kernel
theorem dL_message_19 : decode cL_message 19 = .ok (.astore 5, 2) := by decide +kernel
theorem dL_message_21 : decode cL_message 21 = .ok (.iconst 2, 1) := by decide +kernel
theorem dL_message_22 : decode cL_message 22 = .ok (.ireturn, 1) := by decide +kernel
theorem dL_message_23 : decode cL_message 23 = .ok (.iconst 0, 1) := by decide +kernel
theorem dL_message_24 : decode cL_message 24 = .ok (.ireturn, 1) := by decide +kernel
theorem dL_row_0 : decode cL_row 0 = .ok (.aload_n 3, 1) := by decide +kernel
theorem dL_row_1 : decode cL_row 1 = .ok (.iconst 0, 1) := by decide +kernel
theorem dL_row_2 : decode cL_row 2 = .ok (.aload_n 0, 1) := by decide +kernel
theorem dL_row_3 : decode cL_row 3 = .ok (.iload_n 1, 1) := by decide +kernel
theorem dL_row_4 : decode cL_row 4 = .ok (.iload_n 2, 1) := by decide +kernel
theorem dL_row_5 : decode cL_row 5 = .ok (.invokevirtual 62, 3) := by decide +kernel
theorem dL_row_8 : decode cL_row 8 = .ok (.i2l, 1) := by decide +kernel
theorem dL_row_9 : decode cL_row 9 = .ok (.lastore, 1) := by decide +kernel
theorem dL_row_10 : decode cL_row 10 = .ok (.goto 7, 3) := by decide +kernel
theorem dL_row_13 : decode cL_row 13 = .ok (.astore 4, 2) := by decide +kernel
theorem dL_row_15 : decode cL_row 15 = .ok (.iconst 1, 1) := by decide +kernel
theorem dL_row_16 : decode cL_row 16 = .ok (.ireturn, 1) := by decide +kernel
theorem dL_row_17 : decode cL_row 17 = .ok (.iconst 0, 1) := by decide +kernel
theorem dL_row_18 : decode cL_row 18 = .ok (.ireturn, 1) := by decide +kernel
theorem dL_told_0 : decode cL_told 0 = .ok (.aload_n 3, 1) := by decide +kernel
theorem dL_told_1 : decode cL_told 1 = .ok (.iconst 0, 1) := by decide +kernel
theorem dL_told_2 : decode cL_told 2 = .ok (.aload_n 0, 1) := by decide +kernel
theorem dL_told_3 : decode cL_told 3 = .ok (.iload_n 1, 1) := by decide +kernel
theorem dL_told_4 : decode cL_told 4 = .ok (.iload_n 2, 1) := by decide +kernel
theorem dL_told_5 : decode cL_told 5 = .ok (.invokevirtual 65, 3) := by decide +kernel
theorem dL_told_8 : decode cL_told 8 = .ok (.i2l, 1) := by decide +kernel
theorem dL_told_9 : decode cL_told 9 = .ok (.lastore, 1) := by decide +kernel
theorem dL_told_10 : decode cL_told 10 = .ok (.goto 11, 3) := by decide +kernel
theorem dL_told_13 : decode cL_told 13 = .ok (.astore 4, 2) := by decide +kernel
theorem dL_told_15 : decode cL_told 15 = .ok (.iconst 1, 1) := by decide +kernel
theorem dL_told_16 : decode cL_told 16 = .ok (.ireturn, 1) := by decide +kernel
theorem dL_told_17 : decode cL_told 17 = .ok (.astore 4, 2) := by decide +kernel
theorem dL_told_19 : decode cL_told 19 = .ok (.iconst 2, 1) := by decide +kernel
theorem dL_told_20 : decode cL_told 20 = .ok (.ireturn, 1) := by decide +kernel
theorem dL_told_21 : decode cL_told 21 = .ok (.iconst 0, 1) := by decide +kernel
theorem dL_told_22 : decode cL_told 22 = .ok (.ireturn, 1) := by decide +kernel
theorem dL_result_0 : decode cL_result 0 = .ok (.aload_n 3, 1) := by decide +kernel
theorem dL_result_1 : decode cL_result 1 = .ok (.iconst 0, 1) := by decide +kernel
theorem dL_result_2 : decode cL_result 2 = .ok (.aload_n 0, 1) := by decide +kernel
theorem dL_result_3 : decode cL_result 3 = .ok (.iload_n 1, 1) := by decide +kernel
theorem dL_result_4 : decode cL_result 4 = .ok (.iload_n 2, 1) := by decide +kernel
theorem dL_result_5 : decode cL_result 5 = .ok (.invokevirtual 68, 3) := by decide +kernel
theorem dL_result_8 : decode cL_result 8 = .ok (.i2l, 1) := by decide +kernel
theorem dL_result_9 : decode cL_result 9 = .ok (.lastore, 1) := by decide +kernel
theorem dL_result_10 : decode cL_result 10 = .ok (.goto 7, 3) := by decide +kernel
theorem dL_result_13 : decode cL_result 13 = .ok (.astore 4, 2) := by decide +kernel
theorem dL_result_15 : decode cL_result 15 = .ok (.iconst 1, 1) := by decide +kernel
theorem dL_result_16 : decode cL_result 16 = .ok (.ireturn, 1) := by decide +kernel
theorem dL_result_17 : decode cL_result 17 = .ok (.iconst 0, 1) := by decide +kernel
theorem dL_result_18 : decode cL_result 18 = .ok (.ireturn, 1) := by decide +kernel
