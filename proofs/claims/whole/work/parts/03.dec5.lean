theorem dL_member_0 : decode cL_member 0 = .ok (.aload_n 3, 1) := by decide +kernel
theorem dL_member_1 : decode cL_member 1 = .ok (.iconst 0, 1) := by decide +kernel
theorem dL_member_2 : decode cL_member 2 = .ok (.aload_n 0, 1) := by decide +kernel
theorem dL_member_3 : decode cL_member 3 = .ok (.lload_n 1, 1) := by decide +kernel
theorem dL_member_4 : decode cL_member 4 = .ok (.invokevirtual 7, 3) := by decide +kernel
theorem dL_member_7 : decode cL_member 7 = .ok (.i2l, 1) := by decide +kernel
theorem dL_member_8 : decode cL_member 8 = .ok (.lastore, 1) := by decide +kernel
theorem dL_member_9 : decode cL_member 9 = .ok (.goto 7, 3) := by decide +kernel
theorem dL_member_12 : decode cL_member 12 = .ok (.astore 4, 2) := by decide +kernel
theorem dL_member_14 : decode cL_member 14 = .ok (.iconst 1, 1) := by decide +kernel
theorem dL_member_15 : decode cL_member 15 = .ok (.ireturn, 1) := by decide +kernel
theorem dL_member_16 : decode cL_member 16 = .ok (.iconst 0, 1) := by decide +kernel
theorem dL_member_17 : decode cL_member 17 = .ok (.ireturn, 1) := by decide +kernel
theorem dL_instrument_0 : decode cL_instrument 0 = .ok (.aload 4, 2) := by decide +kernel
theorem dL_instrument_2 : decode cL_instrument 2 = .ok (.iconst 0, 1) := by decide +kernel
theorem dL_instrument_3 : decode cL_instrument 3 = .ok (.aload_n 0, 1) := by decide +kernel
theorem dL_instrument_4 : decode cL_instrument 4 = .ok (.iload_n 1, 1) := by decide +kernel
theorem dL_instrument_5 : decode cL_instrument 5 = .ok (.iload_n 2, 1) := by decide +kernel
theorem dL_instrument_6 : decode cL_instrument 6 = .ok (.iload_n 3, 1) := by decide +kernel
theorem dL_instrument_7 : decode cL_instrument 7 = .ok (.invokevirtual 15, 3) := by decide +kernel
theorem dL_instrument_10 : decode cL_instrument 10 = .ok (.i2l, 1) := by decide +kernel
theorem dL_instrument_11 : decode cL_instrument 11 = .ok (.lastore, 1) := by decide +kernel
theorem dL_instrument_12 : decode cL_instrument 12 = .ok (.goto 7, 3) := by decide +kernel
theorem dL_instrument_15 : decode cL_instrument 15 = .ok (.astore 5, 2) := by decide +kernel
theorem dL_instrument_17 : decode cL_instrument 17 = .ok (.iconst 1, 1) := by decide +kernel
theorem dL_instrument_18 : decode cL_instrument 18 = .ok (.ireturn, 1) := by decide +kernel
theorem dL_instrument_19 : decode cL_instrument 19 = .ok (.iconst 0, 1) := by decide +kernel
theorem dL_instrument_20 : decode cL_instrument 20 = .ok (.ireturn, 1) := by decide +kernel
theorem dL_capital_0 : decode cL_capital 0 = .ok (.aload_n 3, 1) := by decide +kernel
theorem dL_capital_1 : decode cL_capital 1 = .ok (.iconst 0, 1) := by decide +kernel
theorem dL_capital_2 : decode cL_capital 2 = .ok (.aload_n 0, 1) := by decide +kernel
theorem dL_capital_3 : decode cL_capital 3 = .ok (.lload_n 1, 1) := by decide +kernel
theorem dL_capital_4 : decode cL_capital 4 = .ok (.invokevirtual 19, 3) := by decide +kernel
theorem dL_capital_7 : decode cL_capital 7 = .ok (.lastore, 1) := by decide +kernel
theorem dL_capital_8 : decode cL_capital 8 = .ok (.goto 7, 3) := by decide +kernel
theorem dL_capital_11 : decode cL_capital 11 = .ok (.astore 4, 2) := by decide +kernel
theorem dL_capital_13 : decode cL_capital 13 = .ok (.iconst 1, 1) := by decide +kernel
theorem dL_capital_14 : decode cL_capital 14 = .ok (.ireturn, 1) := by decide +kernel
theorem dL_capital_15 : decode cL_capital 15 = .ok (.iconst 0, 1) := by decide +kernel
theorem dL_capital_16 : decode cL_capital 16 = .ok (.ireturn, 1) := by decide +kernel
theorem dL_move_0 : decode cL_move 0 = .ok (.aload_n 0, 1) := by decide +kernel
theorem dL_move_1 : decode cL_move 1 = .ok (.iload_n 1, 1) := by decide +kernel
theorem dL_move_2 : decode cL_move 2 = .ok (.iload_n 2, 1) := by decide +kernel
theorem dL_move_3 : decode cL_move 3 = .ok (.iload_n 3, 1) := by decide +kernel
theorem dL_move_4 : decode cL_move 4 = .ok (.invokevirtual 23, 3) := by decide +kernel
theorem dL_move_7 : decode cL_move 7 = .ok (.goto 7, 3) := by decide +kernel
theorem dL_move_10 : decode cL_move 10 = .ok (.astore 4, 2) := by decide +kernel
theorem dL_move_12 : decode cL_move 12 = .ok (.iconst 1, 1) := by decide +kernel
theorem dL_move_13 : decode cL_move 13 = .ok (.ireturn, 1) := by decide +kernel
theorem dL_move_14 : decode cL_move 14 = .ok (.iconst 0, 1) := by decide +kernel
theorem dL_move_15 : decode cL_move 15 = .ok (.ireturn, 1) := by decide +kernel
theorem dL_bid_0 : decode cL_bid 0 = .ok (.aload_n 0, 1) := by decide +kernel
theorem dL_bid_1 : decode cL_bid 1 = .ok (.iload_n 1, 1) := by decide +kernel
theorem dL_bid_2 : decode cL_bid 2 = .ok (.iload_n 2, 1) := by decide +kernel
theorem dL_bid_3 : decode cL_bid 3 = .ok (.iload_n 3, 1) := by decide +kernel
theorem dL_bid_4 : decode cL_bid 4 = .ok (.invokevirtual 27, 3) := by decide +kernel
theorem dL_bid_7 : decode cL_bid 7 = .ok (.goto 7, 3) := by decide +kernel
theorem dL_bid_10 : decode cL_bid 10 = .ok (.astore 4, 2) := by decide +kernel
theorem dL_bid_12 : decode cL_bid 12 = .ok (.iconst 1, 1) := by decide +kernel
theorem dL_bid_13 : decode cL_bid 13 = .ok (.ireturn, 1) := by decide +kernel
theorem dL_bid_14 : decode cL_bid 14 = .ok (.iconst 0, 1) := by decide +kernel
theorem dL_bid_15 : decode cL_bid 15 = .ok (.ireturn, 1) := by decide +kernel
theorem dL_deposit_0 : decode cL_deposit 0 = .ok (.aload 4, 2) := by decide +kernel
theorem dL_deposit_2 : decode cL_deposit 2 = .ok (.iconst 0, 1) := by decide +kernel
theorem dL_deposit_3 : decode cL_deposit 3 = .ok (.aload_n 0, 1) := by decide +kernel
theorem dL_deposit_4 : decode cL_deposit 4 = .ok (.iload_n 1, 1) := by decide +kernel
theorem dL_deposit_5 : decode cL_deposit 5 = .ok (.lload_n 2, 1) := by decide +kernel
theorem dL_deposit_6 : decode cL_deposit 6 = .ok (.invokevirtual 30, 3) := by decide +kernel
theorem dL_deposit_9 : decode cL_deposit 9 = .ok (.lastore, 1) := by decide +kernel
theorem dL_deposit_10 : decode cL_deposit 10 = .ok (.goto 11, 3) := by decide +kernel
theorem dL_deposit_13 : decode cL_deposit 13 = .ok (.astore 5, 2) := by decide +kernel
theorem dL_deposit_15 : decode cL_deposit 15 = .ok (.iconst 1, 1) := by decide +kernel
theorem dL_deposit_16 : decode cL_deposit 16 = .ok (.ireturn, 1) := by decide +kernel
theorem dL_deposit_17 : decode cL_deposit 17 = .ok (.astore 5, 2) := by decide +kernel
theorem dL_deposit_19 : decode cL_deposit 19 = .ok (.iconst 2, 1) := by decide +kernel
theorem dL_deposit_20 : decode cL_deposit 20 = .ok (.ireturn, 1) := by decide +kernel
theorem dL_deposit_21 : decode cL_deposit 21 = .ok (.iconst 0, 1) := by decide +kernel
theorem dL_deposit_22 : decode cL_deposit 22 = .ok (.ireturn, 1) := by decide +kernel
theorem dL_withdraw_0 : decode cL_withdraw 0 = .ok (.aload 4, 2) := by decide +kernel
theorem dL_withdraw_2 : decode cL_withdraw 2 = .ok (.iconst 0, 1) := by decide +kernel
theorem dL_withdraw_3 : decode cL_withdraw 3 = .ok (.aload_n 0, 1) := by decide +kernel
theorem dL_withdraw_4 : decode cL_withdraw 4 = .ok (.iload_n 1, 1) := by decide +kernel
theorem dL_withdraw_5 : decode cL_withdraw 5 = .ok (.lload_n 2, 1) := by decide +kernel
theorem dL_withdraw_6 : decode cL_withdraw 6 = .ok (.invokevirtual 36, 3) := by decide +kernel
theorem dL_withdraw_9 : decode cL_withdraw 9 = .ok (.lastore, 1) := by decide +kernel
theorem dL_withdraw_10 : decode cL_withdraw 10 = .ok (.goto 11, 3) := by decide +kernel
theorem dL_withdraw_13 : decode cL_withdraw 13 = .ok (.astore 5, 2) := by decide +kernel
theorem dL_withdraw_15 : decode cL_withdraw 15 = .ok (.iconst 1, 1) := by decide +kernel
theorem dL_withdraw_16 : decode cL_withdraw 16 = .ok (.ireturn, 1) := by decide +kernel
theorem dL_withdraw_17 : decode cL_withdraw 17 = .ok (.astore 5, 2) := by decide +kernel
theorem dL_withdraw_19 : decode cL_withdraw 19 = .ok (.iconst 2, 1) := by decide +kernel
theorem dL_withdraw_20 : decode cL_withdraw 20 = .ok (.ireturn, 1) := by decide +kernel
theorem dL_withdraw_21 : decode cL_withdraw 21 = .ok (.iconst 0, 1) := by decide +kernel
theorem dL_withdraw_22 : decode cL_withdraw 22 = .ok (.ireturn, 1) := by decide +kernel
theorem dL_trade_0 : decode cL_trade 0 = .ok (.aload 6, 2) := by decide +kernel
theorem dL_trade_2 : decode cL_trade 2 = .ok (.iconst 0, 1) := by decide +kernel
theorem dL_trade_3 : decode cL_trade 3 = .ok (.aload_n 0, 1) := by decide +kernel
theorem dL_trade_4 : decode cL_trade 4 = .ok (.iload_n 1, 1) := by decide +kernel
theorem dL_trade_5 : decode cL_trade 5 = .ok (.iload_n 2, 1) := by decide +kernel
theorem dL_trade_6 : decode cL_trade 6 = .ok (.iload_n 3, 1) := by decide +kernel
theorem dL_trade_7 : decode cL_trade 7 = .ok (.iload 4, 2) := by decide +kernel
theorem dL_trade_9 : decode cL_trade 9 = .ok (.iload 5, 2) := by decide +kernel
theorem dL_trade_11 : decode cL_trade 11 = .ok (.invokevirtual 39, 3) := by decide +kernel
theorem dL_trade_14 : decode cL_trade 14 = .ok (.i2l, 1) := by decide +kernel
theorem dL_trade_15 : decode cL_trade 15 = .ok (.lastore, 1) := by decide +kernel
theorem dL_trade_16 : decode cL_trade 16 = .ok (.goto 11, 3) := by decide +kernel
theorem dL_trade_19 : decode cL_trade 19 = .ok (.astore 7, 2) := by decide +kernel
theorem dL_trade_21 : decode cL_trade 21 = .ok (.iconst 1, 1) := by decide +kernel
theorem dL_trade_22 : decode cL_trade 22 = .ok (.ireturn, 1) := by decide +kernel
theorem dL_trade_23 : decode cL_trade 23 = .ok (.astore 7, 2) := by decide +kernel
theorem dL_trade_25 : decode cL_trade 25 = .ok (.iconst 2, 1) := by decide +kernel
theorem dL_trade_26 : decode cL_trade 26 = .ok (.ireturn, 1) := by decide +kernel
theorem dL_trade_27 : decode cL_trade 27 = .ok (.iconst 0, 1) := by decide +kernel
theorem dL_trade_28 : decode cL_trade 28 = .ok (.ireturn, 1) := by decide +kernel
theorem dL_mark_0 : decode cL_mark 0 = .ok (.aload_n 3, 1) := by decide +kernel
theorem dL_mark_1 : decode cL_mark 1 = .ok (.iconst 0, 1) := by decide +kernel
theorem dL_mark_2 : decode cL_mark 2 = .ok (.aload_n 0, 1) := by decide +kernel
theorem dL_mark_3 : decode cL_mark 3 = .ok (.iload_n 1, 1) := by decide +kernel
theorem dL_mark_4 : decode cL_mark 4 = .ok (.iload_n 2, 1) := by decide +kernel
theorem dL_mark_5 : decode cL_mark 5 = .ok (.invokevirtual 43, 3) := by decide +kernel
theorem dL_mark_8 : decode cL_mark 8 = .ok (.i2l, 1) := by decide +kernel
theorem dL_mark_9 : decode cL_mark 9 = .ok (.lastore, 1) := by decide +kernel
theorem dL_mark_10 : decode cL_mark 10 = .ok (.goto 7, 3) := by decide +kernel
theorem dL_mark_13 : decode cL_mark 13 = .ok (.astore 4, 2) := by decide +kernel
theorem dL_mark_15 : decode cL_mark 15 = .ok (.iconst 1, 1) := by decide +kernel
theorem dL_mark_16 : decode cL_mark 16 = .ok (.ireturn, 1) := by decide +kernel
theorem dL_mark_17 : decode cL_mark 17 = .ok (.iconst 0, 1) := by decide +kernel
theorem dL_mark_18 : decode cL_mark 18 = .ok (.ireturn, 1) := by decide +kernel
theorem dL_margin_0 : decode cL_margin 0 = .ok (.aload_n 2, 1) := by decide +kernel
theorem dL_margin_1 : decode cL_margin 1 = .ok (.iconst 0, 1) := by decide +kernel
theorem dL_margin_2 : decode cL_margin 2 = .ok (.aload_n 0, 1) := by decide +kernel
theorem dL_margin_3 : decode cL_margin 3 = .ok (.iload_n 1, 1) := by decide +kernel
theorem dL_margin_4 : decode cL_margin 4 = .ok (.invokevirtual 47, 3) := by decide +kernel
theorem dL_margin_7 : decode cL_margin 7 = .ok (.lastore, 1) := by decide +kernel
theorem dL_margin_8 : decode cL_margin 8 = .ok (.goto 6, 3) := by decide +kernel
theorem dL_margin_11 : decode cL_margin 11 = .ok (.astore_n 3, 1) := by decide +kernel
theorem dL_margin_12 : decode cL_margin 12 = .ok (.iconst 1, 1) := by decide +kernel
theorem dL_margin_13 : decode cL_margin 13 = .ok (.ireturn, 1) := by decide +kernel
theorem dL_margin_14 : decode cL_margin 14 = .ok (.iconst 0, 1) := by decide +kernel
theorem dL_margin_15 : decode cL_margin 15 = .ok (.ireturn, 1) := by decide +kernel
theorem dL_called_0 : decode cL_called 0 = .ok (.aload_n 2, 1) := by decide +kernel
theorem dL_called_1 : decode cL_called 1 = .ok (.iconst 0, 1) := by decide +kernel
theorem dL_called_2 : decode cL_called 2 = .ok (.aload_n 0, 1) := by decide +kernel
theorem dL_called_3 : decode cL_called 3 = .ok (.iload_n 1, 1) := by decide +kernel
theorem dL_called_4 : decode cL_called 4 = .ok (.invokevirtual 51, 3) := by decide +kernel
theorem dL_called_7 : decode cL_called 7 = .ok (.lastore, 1) := by decide +kernel
theorem dL_called_8 : decode cL_called 8 = .ok (.goto 6, 3) := by decide +kernel
theorem dL_called_11 : decode cL_called 11 = .ok (.astore_n 3, 1) := by decide +kernel
theorem dL_called_12 : decode cL_called 12 = .ok (.iconst 1, 1) := by decide +kernel
theorem dL_called_13 : decode cL_called 13 = .ok (.ireturn, 1) := by decide +kernel
theorem dL_called_14 : decode cL_called 14 = .ok (.iconst 0, 1) := by decide +kernel
theorem dL_called_15 : decode cL_called 15 = .ok (.ireturn, 1) := by decide +kernel
theorem dL_closeOut_0 : decode cL_closeOut 0 = .ok (.aload_n 2, 1) := by decide +kernel
theorem dL_closeOut_1 : decode cL_closeOut 1 = .ok (.iconst 0, 1) := by decide +kernel
theorem dL_closeOut_2 : decode cL_closeOut 2 = .ok (.aload_n 0, 1) := by decide +kernel
theorem dL_closeOut_3 : decode cL_closeOut 3 = .ok (.iload_n 1, 1) := by decide +kernel
theorem dL_closeOut_4 : decode cL_closeOut 4 = .ok (.invokevirtual 54, 3) := by decide +kernel
theorem dL_closeOut_7 : decode cL_closeOut 7 = .ok (.lastore, 1) := by decide +kernel
theorem dL_closeOut_8 : decode cL_closeOut 8 = .ok (.goto 9, 3) := by decide +kernel
theorem dL_closeOut_11 : decode cL_closeOut 11 = .ok (.astore_n 3, 1) := by decide +kernel
theorem dL_closeOut_12 : decode cL_closeOut 12 = .ok (.iconst 1, 1) := by decide +kernel
theorem dL_closeOut_13 : decode cL_closeOut 13 = .ok (.ireturn, 1) := by decide +kernel
theorem dL_closeOut_14 : decode cL_closeOut 14 = .ok (.astore_n 3, 1) := by decide +kernel
theorem dL_closeOut_15 : decode cL_closeOut 15 = .ok (.iconst 2, 1) := by decide +kernel
theorem dL_closeOut_16 : decode cL_closeOut 16 = .ok (.ireturn, 1) := by decide +kernel
theorem dL_closeOut_17 : decode cL_closeOut 17 = .ok (.iconst 0, 1) := by decide +kernel
theorem dL_closeOut_18 : decode cL_closeOut 18 = .ok (.ireturn, 1) := by decide +kernel
theorem dL_told_0 : decode cL_told 0 = .ok (.aload_n 3, 1) := by decide +kernel
theorem dL_told_1 : decode cL_told 1 = .ok (.iconst 0, 1) := by decide +kernel
theorem dL_told_2 : decode cL_told 2 = .ok (.aload_n 0, 1) := by decide +kernel
theorem dL_told_3 : decode cL_told 3 = .ok (.iload_n 1, 1) := by decide +kernel
theorem dL_told_4 : decode cL_told 4 = .ok (.iload_n 2, 1) := by decide +kernel
theorem dL_told_5 : decode cL_told 5 = .ok (.invokevirtual 57, 3) := by decide +kernel
theorem dL_told_8 : decode cL_told 8 = .ok (.lastore, 1) := by decide +kernel
theorem dL_told_9 : decode cL_told 9 = .ok (.goto 7, 3) := by decide +kernel
theorem dL_told_12 : decode cL_told 12 = .ok (.astore 4, 2) := by decide +kernel
theorem dL_told_14 : decode cL_told 14 = .ok (.iconst 1, 1) := by decide +kernel
theorem dL_told_15 : decode cL_told 15 = .ok (.ireturn, 1) := by decide +kernel
theorem dL_told_16 : decode cL_told 16 = .ok (.iconst 0, 1) := by decide +kernel
theorem dL_told_17 : decode cL_told 17 = .ok (.ireturn, 1) := by decide +kernel
theorem dL_position_0 : decode cL_position 0 = .ok (.aload_n 3, 1) := by decide +kernel
theorem dL_position_1 : decode cL_position 1 = .ok (.iconst 0, 1) := by decide +kernel
theorem dL_position_2 : decode cL_position 2 = .ok (.aload_n 0, 1) := by decide +kernel
theorem dL_position_3 : decode cL_position 3 = .ok (.iload_n 1, 1) := by decide +kernel
theorem dL_position_4 : decode cL_position 4 = .ok (.iload_n 2, 1) := by decide +kernel
theorem dL_position_5 : decode cL_position 5 = .ok (.invokevirtual 61, 3) := by decide +kernel
theorem dL_position_8 : decode cL_position 8 = .ok (.i2l, 1) := by decide +kernel
theorem dL_position_9 : decode cL_position 9 = .ok (.lastore, 1) := by decide +kernel
theorem dL_position_10 : decode cL_position 10 = .ok (.goto 7, 3) := by decide +kernel
theorem dL_position_13 : decode cL_position 13 = .ok (.astore 4, 2) := by decide +kernel
theorem dL_position_15 : decode cL_position 15 = .ok (.iconst 1, 1) := by decide +kernel
theorem dL_position_16 : decode cL_position 16 = .ok (.ireturn, 1) := by decide +kernel
theorem dL_position_17 : decode cL_position 17 = .ok (.iconst 0, 1) := by decide +kernel
theorem dL_position_18 : decode cL_position 18 = .ok (.ireturn, 1) := by decide +kernel
theorem dL_bore_0 : decode cL_bore 0 = .ok (.aload_n 2, 1) := by decide +kernel
theorem dL_bore_1 : decode cL_bore 1 = .ok (.iconst 0, 1) := by decide +kernel
theorem dL_bore_2 : decode cL_bore 2 = .ok (.aload_n 0, 1) := by decide +kernel
theorem dL_bore_3 : decode cL_bore 3 = .ok (.iload_n 1, 1) := by decide +kernel
theorem dL_bore_4 : decode cL_bore 4 = .ok (.invokevirtual 64, 3) := by decide +kernel
theorem dL_bore_7 : decode cL_bore 7 = .ok (.lastore, 1) := by decide +kernel
theorem dL_bore_8 : decode cL_bore 8 = .ok (.goto 6, 3) := by decide +kernel
theorem dL_bore_11 : decode cL_bore 11 = .ok (.astore_n 3, 1) := by decide +kernel
theorem dL_bore_12 : decode cL_bore 12 = .ok (.iconst 1, 1) := by decide +kernel
theorem dL_bore_13 : decode cL_bore 13 = .ok (.ireturn, 1) := by decide +kernel
theorem dL_bore_14 : decode cL_bore 14 = .ok (.iconst 0, 1) := by decide +kernel
theorem dL_bore_15 : decode cL_bore 15 = .ok (.ireturn, 1) := by decide +kernel
theorem dL_all_0 : decode cL_all 0 = .ok (.aload_n 2, 1) := by decide +kernel
theorem dL_all_1 : decode cL_all 1 = .ok (.iconst 0, 1) := by decide +kernel
theorem dL_all_2 : decode cL_all 2 = .ok (.aload_n 0, 1) := by decide +kernel
theorem dL_all_3 : decode cL_all 3 = .ok (.iload_n 1, 1) := by decide +kernel
theorem dL_all_4 : decode cL_all 4 = .ok (.invokevirtual 67, 3) := by decide +kernel
theorem dL_all_7 : decode cL_all 7 = .ok (.lastore, 1) := by decide +kernel
theorem dL_all_8 : decode cL_all 8 = .ok (.goto 6, 3) := by decide +kernel
theorem dL_all_11 : decode cL_all 11 = .ok (.astore_n 3, 1) := by decide +kernel
theorem dL_all_12 : decode cL_all 12 = .ok (.iconst 1, 1) := by decide +kernel
theorem dL_all_13 : decode cL_all 13 = .ok (.ireturn, 1) := by decide +kernel
theorem dL_all_14 : decode cL_all 14 = .ok (.iconst 0, 1) := by decide +kernel
theorem dL_all_15 : decode cL_all 15 = .ok (.ireturn, 1) := by decide +kernel
theorem dL_law_0 : decode cL_law 0 = .ok (.new 8, 3) := by decide +kernel
theorem dL_law_3 : decode cL_law 3 = .ok (.dup, 1) := by decide +kernel
theorem dL_law_4 : decode cL_law 4 = .ok (.invokespecial 70, 3) := by decide +kernel
theorem dL_law_7 : decode cL_law 7 = .ok (.astore_n 1, 1) := by decide +kernel
theorem dL_law_8 : decode cL_law 8 = .ok (.new 71, 3) := by decide +kernel
theorem dL_law_11 : decode cL_law 11 = .ok (.dup, 1) := by decide +kernel
theorem dL_law_12 : decode cL_law 12 = .ok (.invokespecial 73, 3) := by decide +kernel
theorem dL_law_15 : decode cL_law 15 = .ok (.astore_n 2, 1) := by decide +kernel
theorem dL_law_16 : decode cL_law 16 = .ok (.iconst 1, 1) := by decide +kernel
theorem dL_law_17 : decode cL_law 17 = .ok (.newarray .long, 2) := by decide +kernel
theorem dL_law_19 : decode cL_law 19 = .ok (.astore_n 3, 1) := by decide +kernel
theorem dL_law_20 : decode cL_law 20 = .ok (.iconst 0, 1) := by decide +kernel
theorem dL_law_21 : decode cL_law 21 = .ok (.istore 4, 2) := by decide +kernel
theorem dL_law_23 : decode cL_law 23 = .ok (.iload 4, 2) := by decide +kernel
theorem dL_law_25 : decode cL_law 25 = .ok (.aload_n 0, 1) := by decide +kernel
theorem dL_law_26 : decode cL_law 26 = .ok (.arraylength, 1) := by decide +kernel
theorem dL_law_27 : decode cL_law 27 = .ok (.bipush 6, 2) := by decide +kernel
theorem dL_law_29 : decode cL_law 29 = .ok (.isub, 1) := by decide +kernel
theorem dL_law_30 : decode cL_law 30 = .ok (.if_icmp .gt 1268, 3) := by decide +kernel
theorem dL_law_33 : decode cL_law 33 = .ok (.aload_n 0, 1) := by decide +kernel
theorem dL_law_34 : decode cL_law 34 = .ok (.iload 4, 2) := by decide +kernel
theorem dL_law_36 : decode cL_law 36 = .ok (.iaload, 1) := by decide +kernel
theorem dL_law_37 : decode cL_law 37 = .ok (.bipush 31, 2) := by decide +kernel
theorem dL_law_39 : decode cL_law 39 = .ok (.iand, 1) := by decide +kernel
theorem dL_law_40 : decode cL_law 40 = .ok (.tableswitch 1252 0 16 #[84, 172, 252, 339, 399, 459, 558, 657, 761, 829, 884, 939, 952, 1007, 1074, 1142, 1197], 84) := by decide +kernel
theorem dL_law_124 : decode cL_law 124 = .ok (.aload_n 1, 1) := by decide +kernel
theorem dL_law_125 : decode cL_law 125 = .ok (.aload_n 0, 1) := by decide +kernel
theorem dL_law_126 : decode cL_law 126 = .ok (.iload 4, 2) := by decide +kernel
theorem dL_law_128 : decode cL_law 128 = .ok (.iconst 1, 1) := by decide +kernel
theorem dL_law_129 : decode cL_law 129 = .ok (.iadd, 1) := by decide +kernel
theorem dL_law_130 : decode cL_law 130 = .ok (.iaload, 1) := by decide +kernel
theorem dL_law_131 : decode cL_law 131 = .ok (.i2l, 1) := by decide +kernel
theorem dL_law_132 : decode cL_law 132 = .ok (.bipush 32, 2) := by decide +kernel
theorem dL_law_134 : decode cL_law 134 = .ok (.lshl, 1) := by decide +kernel
theorem dL_law_135 : decode cL_law 135 = .ok (.aload_n 0, 1) := by decide +kernel
theorem dL_law_136 : decode cL_law 136 = .ok (.iload 4, 2) := by decide +kernel
theorem dL_law_138 : decode cL_law 138 = .ok (.iconst 2, 1) := by decide +kernel
theorem dL_law_139 : decode cL_law 139 = .ok (.iadd, 1) := by decide +kernel
theorem dL_law_140 : decode cL_law 140 = .ok (.iaload, 1) := by decide +kernel
theorem dL_law_141 : decode cL_law 141 = .ok (.i2l, 1) := by decide +kernel
theorem dL_law_142 : decode cL_law 142 = .ok (.ldc2_w 74, 3) := by decide +kernel
theorem dL_law_145 : decode cL_law 145 = .ok (.land, 1) := by decide +kernel
theorem dL_law_146 : decode cL_law 146 = .ok (.lor, 1) := by decide +kernel
theorem dL_law_147 : decode cL_law 147 = .ok (.aload_n 3, 1) := by decide +kernel
theorem dL_law_148 : decode cL_law 148 = .ok (.invokestatic 76, 3) := by decide +kernel
theorem dL_law_151 : decode cL_law 151 = .ok (.istore 5, 2) := by decide +kernel
theorem dL_law_153 : decode cL_law 153 = .ok (.aload_n 2, 1) := by decide +kernel
theorem dL_law_154 : decode cL_law 154 = .ok (.aload_n 0, 1) := by decide +kernel
theorem dL_law_155 : decode cL_law 155 = .ok (.iload 4, 2) := by decide +kernel
theorem dL_law_157 : decode cL_law 157 = .ok (.iconst 1, 1) := by decide +kernel
theorem dL_law_158 : decode cL_law 158 = .ok (.iadd, 1) := by decide +kernel
theorem dL_law_159 : decode cL_law 159 = .ok (.iaload, 1) := by decide +kernel
theorem dL_law_160 : decode cL_law 160 = .ok (.i2l, 1) := by decide +kernel
theorem dL_law_161 : decode cL_law 161 = .ok (.bipush 32, 2) := by decide +kernel
theorem dL_law_163 : decode cL_law 163 = .ok (.lshl, 1) := by decide +kernel
theorem dL_law_164 : decode cL_law 164 = .ok (.aload_n 0, 1) := by decide +kernel
theorem dL_law_165 : decode cL_law 165 = .ok (.iload 4, 2) := by decide +kernel
theorem dL_law_167 : decode cL_law 167 = .ok (.iconst 2, 1) := by decide +kernel
theorem dL_law_168 : decode cL_law 168 = .ok (.iadd, 1) := by decide +kernel
theorem dL_law_169 : decode cL_law 169 = .ok (.iaload, 1) := by decide +kernel
theorem dL_law_170 : decode cL_law 170 = .ok (.i2l, 1) := by decide +kernel
theorem dL_law_171 : decode cL_law 171 = .ok (.ldc2_w 74, 3) := by decide +kernel
theorem dL_law_174 : decode cL_law 174 = .ok (.land, 1) := by decide +kernel
theorem dL_law_175 : decode cL_law 175 = .ok (.lor, 1) := by decide +kernel
theorem dL_law_176 : decode cL_law 176 = .ok (.invokevirtual 81, 3) := by decide +kernel
theorem dL_law_179 : decode cL_law 179 = .ok (.istore 6, 2) := by decide +kernel
theorem dL_law_181 : decode cL_law 181 = .ok (.aload_n 2, 1) := by decide +kernel
theorem dL_law_182 : decode cL_law 182 = .ok (.invokevirtual 82, 3) := by decide +kernel
theorem dL_law_185 : decode cL_law 185 = .ok (.iload 5, 2) := by decide +kernel
theorem dL_law_187 : decode cL_law 187 = .ok (.if_icmp .eq 5, 3) := by decide +kernel
theorem dL_law_190 : decode cL_law 190 = .ok (.iconst 0, 1) := by decide +kernel
theorem dL_law_191 : decode cL_law 191 = .ok (.ireturn, 1) := by decide +kernel
theorem dL_law_192 : decode cL_law 192 = .ok (.iload 5, 2) := by decide +kernel
theorem dL_law_194 : decode cL_law 194 = .ok (.ifCond .ne 15, 3) := by decide +kernel
theorem dL_law_197 : decode cL_law 197 = .ok (.aload_n 3, 1) := by decide +kernel
theorem dL_law_198 : decode cL_law 198 = .ok (.iconst 0, 1) := by decide +kernel
theorem dL_law_199 : decode cL_law 199 = .ok (.laload, 1) := by decide +kernel
theorem dL_law_200 : decode cL_law 200 = .ok (.iload 6, 2) := by decide +kernel
theorem dL_law_202 : decode cL_law 202 = .ok (.i2l, 1) := by decide +kernel
theorem dL_law_203 : decode cL_law 203 = .ok (.lcmp, 1) := by decide +kernel
theorem dL_law_204 : decode cL_law 204 = .ok (.ifCond .eq 5, 3) := by decide +kernel
theorem dL_law_207 : decode cL_law 207 = .ok (.iconst 0, 1) := by decide +kernel
theorem dL_law_208 : decode cL_law 208 = .ok (.ireturn, 1) := by decide +kernel
theorem dL_law_209 : decode cL_law 209 = .ok (.goto 1083, 3) := by decide +kernel
theorem dL_law_212 : decode cL_law 212 = .ok (.aload_n 1, 1) := by decide +kernel
theorem dL_law_213 : decode cL_law 213 = .ok (.aload_n 0, 1) := by decide +kernel
theorem dL_law_214 : decode cL_law 214 = .ok (.iload 4, 2) := by decide +kernel
theorem dL_law_216 : decode cL_law 216 = .ok (.iconst 1, 1) := by decide +kernel
theorem dL_law_217 : decode cL_law 217 = .ok (.iadd, 1) := by decide +kernel
theorem dL_law_218 : decode cL_law 218 = .ok (.iaload, 1) := by decide +kernel
theorem dL_law_219 : decode cL_law 219 = .ok (.aload_n 0, 1) := by decide +kernel
theorem dL_law_220 : decode cL_law 220 = .ok (.iload 4, 2) := by decide +kernel
theorem dL_law_222 : decode cL_law 222 = .ok (.iconst 2, 1) := by decide +kernel
theorem dL_law_223 : decode cL_law 223 = .ok (.iadd, 1) := by decide +kernel
theorem dL_law_224 : decode cL_law 224 = .ok (.iaload, 1) := by decide +kernel
theorem dL_law_225 : decode cL_law 225 = .ok (.aload_n 0, 1) := by decide +kernel
theorem dL_law_226 : decode cL_law 226 = .ok (.iload 4, 2) := by decide +kernel
theorem dL_law_228 : decode cL_law 228 = .ok (.iconst 3, 1) := by decide +kernel
theorem dL_law_229 : decode cL_law 229 = .ok (.iadd, 1) := by decide +kernel
theorem dL_law_230 : decode cL_law 230 = .ok (.iaload, 1) := by decide +kernel
theorem dL_law_231 : decode cL_law 231 = .ok (.aload_n 3, 1) := by decide +kernel
theorem dL_law_232 : decode cL_law 232 = .ok (.invokestatic 86, 3) := by decide +kernel
theorem dL_law_235 : decode cL_law 235 = .ok (.istore 5, 2) := by decide +kernel
theorem dL_law_237 : decode cL_law 237 = .ok (.aload_n 2, 1) := by decide +kernel
theorem dL_law_238 : decode cL_law 238 = .ok (.aload_n 0, 1) := by decide +kernel
theorem dL_law_239 : decode cL_law 239 = .ok (.iload 4, 2) := by decide +kernel
theorem dL_law_241 : decode cL_law 241 = .ok (.iconst 1, 1) := by decide +kernel
theorem dL_law_242 : decode cL_law 242 = .ok (.iadd, 1) := by decide +kernel
theorem dL_law_243 : decode cL_law 243 = .ok (.iaload, 1) := by decide +kernel
theorem dL_law_244 : decode cL_law 244 = .ok (.aload_n 0, 1) := by decide +kernel
theorem dL_law_245 : decode cL_law 245 = .ok (.iload 4, 2) := by decide +kernel
theorem dL_law_247 : decode cL_law 247 = .ok (.iconst 2, 1) := by decide +kernel
theorem dL_law_248 : decode cL_law 248 = .ok (.iadd, 1) := by decide +kernel
theorem dL_law_249 : decode cL_law 249 = .ok (.iaload, 1) := by decide +kernel
theorem dL_law_250 : decode cL_law 250 = .ok (.aload_n 0, 1) := by decide +kernel
theorem dL_law_251 : decode cL_law 251 = .ok (.iload 4, 2) := by decide +kernel
theorem dL_law_253 : decode cL_law 253 = .ok (.iconst 3, 1) := by decide +kernel
theorem dL_law_254 : decode cL_law 254 = .ok (.iadd, 1) := by decide +kernel
theorem dL_law_255 : decode cL_law 255 = .ok (.iaload, 1) := by decide +kernel
theorem dL_law_256 : decode cL_law 256 = .ok (.invokevirtual 89, 3) := by decide +kernel
theorem dL_law_259 : decode cL_law 259 = .ok (.istore 6, 2) := by decide +kernel
theorem dL_law_261 : decode cL_law 261 = .ok (.aload_n 2, 1) := by decide +kernel
theorem dL_law_262 : decode cL_law 262 = .ok (.invokevirtual 82, 3) := by decide +kernel
theorem dL_law_265 : decode cL_law 265 = .ok (.iload 5, 2) := by decide +kernel
theorem dL_law_267 : decode cL_law 267 = .ok (.if_icmp .eq 5, 3) := by decide +kernel
theorem dL_law_270 : decode cL_law 270 = .ok (.iconst 0, 1) := by decide +kernel
theorem dL_law_271 : decode cL_law 271 = .ok (.ireturn, 1) := by decide +kernel
theorem dL_law_272 : decode cL_law 272 = .ok (.iload 5, 2) := by decide +kernel
theorem dL_law_274 : decode cL_law 274 = .ok (.ifCond .ne 15, 3) := by decide +kernel
theorem dL_law_277 : decode cL_law 277 = .ok (.aload_n 3, 1) := by decide +kernel
theorem dL_law_278 : decode cL_law 278 = .ok (.iconst 0, 1) := by decide +kernel
theorem dL_law_279 : decode cL_law 279 = .ok (.laload, 1) := by decide +kernel
theorem dL_law_280 : decode cL_law 280 = .ok (.iload 6, 2) := by decide +kernel
theorem dL_law_282 : decode cL_law 282 = .ok (.i2l, 1) := by decide +kernel
theorem dL_law_283 : decode cL_law 283 = .ok (.lcmp, 1) := by decide +kernel
theorem dL_law_284 : decode cL_law 284 = .ok (.ifCond .eq 5, 3) := by decide +kernel
theorem dL_law_287 : decode cL_law 287 = .ok (.iconst 0, 1) := by decide +kernel
theorem dL_law_288 : decode cL_law 288 = .ok (.ireturn, 1) := by decide +kernel
theorem dL_law_289 : decode cL_law 289 = .ok (.goto 1003, 3) := by decide +kernel
theorem dL_law_292 : decode cL_law 292 = .ok (.aload_n 1, 1) := by decide +kernel
theorem dL_law_293 : decode cL_law 293 = .ok (.aload_n 0, 1) := by decide +kernel
theorem dL_law_294 : decode cL_law 294 = .ok (.iload 4, 2) := by decide +kernel
theorem dL_law_296 : decode cL_law 296 = .ok (.iconst 1, 1) := by decide +kernel
theorem dL_law_297 : decode cL_law 297 = .ok (.iadd, 1) := by decide +kernel
theorem dL_law_298 : decode cL_law 298 = .ok (.iaload, 1) := by decide +kernel
theorem dL_law_299 : decode cL_law 299 = .ok (.i2l, 1) := by decide +kernel
theorem dL_law_300 : decode cL_law 300 = .ok (.bipush 32, 2) := by decide +kernel
theorem dL_law_302 : decode cL_law 302 = .ok (.lshl, 1) := by decide +kernel
theorem dL_law_303 : decode cL_law 303 = .ok (.aload_n 0, 1) := by decide +kernel
theorem dL_law_304 : decode cL_law 304 = .ok (.iload 4, 2) := by decide +kernel
theorem dL_law_306 : decode cL_law 306 = .ok (.iconst 2, 1) := by decide +kernel
theorem dL_law_307 : decode cL_law 307 = .ok (.iadd, 1) := by decide +kernel
theorem dL_law_308 : decode cL_law 308 = .ok (.iaload, 1) := by decide +kernel
theorem dL_law_309 : decode cL_law 309 = .ok (.i2l, 1) := by decide +kernel
theorem dL_law_310 : decode cL_law 310 = .ok (.ldc2_w 74, 3) := by decide +kernel
theorem dL_law_313 : decode cL_law 313 = .ok (.land, 1) := by decide +kernel
theorem dL_law_314 : decode cL_law 314 = .ok (.lor, 1) := by decide +kernel
theorem dL_law_315 : decode cL_law 315 = .ok (.aload_n 3, 1) := by decide +kernel
theorem dL_law_316 : decode cL_law 316 = .ok (.invokestatic 90, 3) := by decide +kernel
theorem dL_law_319 : decode cL_law 319 = .ok (.istore 5, 2) := by decide +kernel
theorem dL_law_321 : decode cL_law 321 = .ok (.aload_n 2, 1) := by decide +kernel
theorem dL_law_322 : decode cL_law 322 = .ok (.aload_n 0, 1) := by decide +kernel
theorem dL_law_323 : decode cL_law 323 = .ok (.iload 4, 2) := by decide +kernel
theorem dL_law_325 : decode cL_law 325 = .ok (.iconst 1, 1) := by decide +kernel
theorem dL_law_326 : decode cL_law 326 = .ok (.iadd, 1) := by decide +kernel
theorem dL_law_327 : decode cL_law 327 = .ok (.iaload, 1) := by decide +kernel
theorem dL_law_328 : decode cL_law 328 = .ok (.i2l, 1) := by decide +kernel
theorem dL_law_329 : decode cL_law 329 = .ok (.bipush 32, 2) := by decide +kernel
theorem dL_law_331 : decode cL_law 331 = .ok (.lshl, 1) := by decide +kernel
theorem dL_law_332 : decode cL_law 332 = .ok (.aload_n 0, 1) := by decide +kernel
theorem dL_law_333 : decode cL_law 333 = .ok (.iload 4, 2) := by decide +kernel
theorem dL_law_335 : decode cL_law 335 = .ok (.iconst 2, 1) := by decide +kernel
theorem dL_law_336 : decode cL_law 336 = .ok (.iadd, 1) := by decide +kernel
theorem dL_law_337 : decode cL_law 337 = .ok (.iaload, 1) := by decide +kernel
theorem dL_law_338 : decode cL_law 338 = .ok (.i2l, 1) := by decide +kernel
theorem dL_law_339 : decode cL_law 339 = .ok (.ldc2_w 74, 3) := by decide +kernel
theorem dL_law_342 : decode cL_law 342 = .ok (.land, 1) := by decide +kernel
theorem dL_law_343 : decode cL_law 343 = .ok (.lor, 1) := by decide +kernel
theorem dL_law_344 : decode cL_law 344 = .ok (.invokevirtual 92, 3) := by decide +kernel
theorem dL_law_347 : decode cL_law 347 = .ok (.lstore 6, 2) := by decide +kernel
theorem dL_law_349 : decode cL_law 349 = .ok (.aload_n 2, 1) := by decide +kernel
theorem dL_law_350 : decode cL_law 350 = .ok (.invokevirtual 82, 3) := by decide +kernel
theorem dL_law_353 : decode cL_law 353 = .ok (.iload 5, 2) := by decide +kernel
theorem dL_law_355 : decode cL_law 355 = .ok (.if_icmp .eq 5, 3) := by decide +kernel
theorem dL_law_358 : decode cL_law 358 = .ok (.iconst 0, 1) := by decide +kernel
theorem dL_law_359 : decode cL_law 359 = .ok (.ireturn, 1) := by decide +kernel
theorem dL_law_360 : decode cL_law 360 = .ok (.iload 5, 2) := by decide +kernel
theorem dL_law_362 : decode cL_law 362 = .ok (.ifCond .ne 14, 3) := by decide +kernel
theorem dL_law_365 : decode cL_law 365 = .ok (.aload_n 3, 1) := by decide +kernel
theorem dL_law_366 : decode cL_law 366 = .ok (.iconst 0, 1) := by decide +kernel
theorem dL_law_367 : decode cL_law 367 = .ok (.laload, 1) := by decide +kernel
theorem dL_law_368 : decode cL_law 368 = .ok (.lload 6, 2) := by decide +kernel
theorem dL_law_370 : decode cL_law 370 = .ok (.lcmp, 1) := by decide +kernel
theorem dL_law_371 : decode cL_law 371 = .ok (.ifCond .eq 5, 3) := by decide +kernel
theorem dL_law_374 : decode cL_law 374 = .ok (.iconst 0, 1) := by decide +kernel
theorem dL_law_375 : decode cL_law 375 = .ok (.ireturn, 1) := by decide +kernel
theorem dL_law_376 : decode cL_law 376 = .ok (.goto 916, 3) := by decide +kernel
theorem dL_law_379 : decode cL_law 379 = .ok (.aload_n 1, 1) := by decide +kernel
theorem dL_law_380 : decode cL_law 380 = .ok (.aload_n 0, 1) := by decide +kernel
theorem dL_law_381 : decode cL_law 381 = .ok (.iload 4, 2) := by decide +kernel
theorem dL_law_383 : decode cL_law 383 = .ok (.iconst 1, 1) := by decide +kernel
theorem dL_law_384 : decode cL_law 384 = .ok (.iadd, 1) := by decide +kernel
theorem dL_law_385 : decode cL_law 385 = .ok (.iaload, 1) := by decide +kernel
theorem dL_law_386 : decode cL_law 386 = .ok (.aload_n 0, 1) := by decide +kernel
theorem dL_law_387 : decode cL_law 387 = .ok (.iload 4, 2) := by decide +kernel
theorem dL_law_389 : decode cL_law 389 = .ok (.iconst 2, 1) := by decide +kernel
theorem dL_law_390 : decode cL_law 390 = .ok (.iadd, 1) := by decide +kernel
theorem dL_law_391 : decode cL_law 391 = .ok (.iaload, 1) := by decide +kernel
theorem dL_law_392 : decode cL_law 392 = .ok (.aload_n 0, 1) := by decide +kernel
theorem dL_law_393 : decode cL_law 393 = .ok (.iload 4, 2) := by decide +kernel
theorem dL_law_395 : decode cL_law 395 = .ok (.iconst 3, 1) := by decide +kernel
theorem dL_law_396 : decode cL_law 396 = .ok (.iadd, 1) := by decide +kernel
theorem dL_law_397 : decode cL_law 397 = .ok (.iaload, 1) := by decide +kernel
theorem dL_law_398 : decode cL_law 398 = .ok (.invokestatic 93, 3) := by decide +kernel
theorem dL_law_401 : decode cL_law 401 = .ok (.istore 5, 2) := by decide +kernel
theorem dL_law_403 : decode cL_law 403 = .ok (.aload_n 2, 1) := by decide +kernel
theorem dL_law_404 : decode cL_law 404 = .ok (.aload_n 0, 1) := by decide +kernel
theorem dL_law_405 : decode cL_law 405 = .ok (.iload 4, 2) := by decide +kernel
theorem dL_law_407 : decode cL_law 407 = .ok (.iconst 1, 1) := by decide +kernel
theorem dL_law_408 : decode cL_law 408 = .ok (.iadd, 1) := by decide +kernel
theorem dL_law_409 : decode cL_law 409 = .ok (.iaload, 1) := by decide +kernel
theorem dL_law_410 : decode cL_law 410 = .ok (.aload_n 0, 1) := by decide +kernel
theorem dL_law_411 : decode cL_law 411 = .ok (.iload 4, 2) := by decide +kernel
theorem dL_law_413 : decode cL_law 413 = .ok (.iconst 2, 1) := by decide +kernel
theorem dL_law_414 : decode cL_law 414 = .ok (.iadd, 1) := by decide +kernel
theorem dL_law_415 : decode cL_law 415 = .ok (.iaload, 1) := by decide +kernel
theorem dL_law_416 : decode cL_law 416 = .ok (.aload_n 0, 1) := by decide +kernel
theorem dL_law_417 : decode cL_law 417 = .ok (.iload 4, 2) := by decide +kernel
theorem dL_law_419 : decode cL_law 419 = .ok (.iconst 3, 1) := by decide +kernel
theorem dL_law_420 : decode cL_law 420 = .ok (.iadd, 1) := by decide +kernel
theorem dL_law_421 : decode cL_law 421 = .ok (.iaload, 1) := by decide +kernel
theorem dL_law_422 : decode cL_law 422 = .ok (.invokevirtual 96, 3) := by decide +kernel
theorem dL_law_425 : decode cL_law 425 = .ok (.aload_n 2, 1) := by decide +kernel
theorem dL_law_426 : decode cL_law 426 = .ok (.invokevirtual 82, 3) := by decide +kernel
theorem dL_law_429 : decode cL_law 429 = .ok (.iload 5, 2) := by decide +kernel
theorem dL_law_431 : decode cL_law 431 = .ok (.if_icmp .eq 5, 3) := by decide +kernel
theorem dL_law_434 : decode cL_law 434 = .ok (.iconst 0, 1) := by decide +kernel
theorem dL_law_435 : decode cL_law 435 = .ok (.ireturn, 1) := by decide +kernel
theorem dL_law_436 : decode cL_law 436 = .ok (.goto 856, 3) := by decide +kernel
theorem dL_law_439 : decode cL_law 439 = .ok (.aload_n 1, 1) := by decide +kernel
theorem dL_law_440 : decode cL_law 440 = .ok (.aload_n 0, 1) := by decide +kernel
theorem dL_law_441 : decode cL_law 441 = .ok (.iload 4, 2) := by decide +kernel
theorem dL_law_443 : decode cL_law 443 = .ok (.iconst 1, 1) := by decide +kernel
theorem dL_law_444 : decode cL_law 444 = .ok (.iadd, 1) := by decide +kernel
theorem dL_law_445 : decode cL_law 445 = .ok (.iaload, 1) := by decide +kernel
theorem dL_law_446 : decode cL_law 446 = .ok (.aload_n 0, 1) := by decide +kernel
theorem dL_law_447 : decode cL_law 447 = .ok (.iload 4, 2) := by decide +kernel
theorem dL_law_449 : decode cL_law 449 = .ok (.iconst 2, 1) := by decide +kernel
theorem dL_law_450 : decode cL_law 450 = .ok (.iadd, 1) := by decide +kernel
theorem dL_law_451 : decode cL_law 451 = .ok (.iaload, 1) := by decide +kernel
theorem dL_law_452 : decode cL_law 452 = .ok (.aload_n 0, 1) := by decide +kernel
theorem dL_law_453 : decode cL_law 453 = .ok (.iload 4, 2) := by decide +kernel
theorem dL_law_455 : decode cL_law 455 = .ok (.iconst 3, 1) := by decide +kernel
theorem dL_law_456 : decode cL_law 456 = .ok (.iadd, 1) := by decide +kernel
theorem dL_law_457 : decode cL_law 457 = .ok (.iaload, 1) := by decide +kernel
theorem dL_law_458 : decode cL_law 458 = .ok (.invokestatic 97, 3) := by decide +kernel
theorem dL_law_461 : decode cL_law 461 = .ok (.istore 5, 2) := by decide +kernel
theorem dL_law_463 : decode cL_law 463 = .ok (.aload_n 2, 1) := by decide +kernel
theorem dL_law_464 : decode cL_law 464 = .ok (.aload_n 0, 1) := by decide +kernel
theorem dL_law_465 : decode cL_law 465 = .ok (.iload 4, 2) := by decide +kernel
theorem dL_law_467 : decode cL_law 467 = .ok (.iconst 1, 1) := by decide +kernel
theorem dL_law_468 : decode cL_law 468 = .ok (.iadd, 1) := by decide +kernel
theorem dL_law_469 : decode cL_law 469 = .ok (.iaload, 1) := by decide +kernel
theorem dL_law_470 : decode cL_law 470 = .ok (.aload_n 0, 1) := by decide +kernel
theorem dL_law_471 : decode cL_law 471 = .ok (.iload 4, 2) := by decide +kernel
theorem dL_law_473 : decode cL_law 473 = .ok (.iconst 2, 1) := by decide +kernel
theorem dL_law_474 : decode cL_law 474 = .ok (.iadd, 1) := by decide +kernel
theorem dL_law_475 : decode cL_law 475 = .ok (.iaload, 1) := by decide +kernel
theorem dL_law_476 : decode cL_law 476 = .ok (.aload_n 0, 1) := by decide +kernel
theorem dL_law_477 : decode cL_law 477 = .ok (.iload 4, 2) := by decide +kernel
theorem dL_law_479 : decode cL_law 479 = .ok (.iconst 3, 1) := by decide +kernel
theorem dL_law_480 : decode cL_law 480 = .ok (.iadd, 1) := by decide +kernel
theorem dL_law_481 : decode cL_law 481 = .ok (.iaload, 1) := by decide +kernel
theorem dL_law_482 : decode cL_law 482 = .ok (.invokevirtual 99, 3) := by decide +kernel
theorem dL_law_485 : decode cL_law 485 = .ok (.aload_n 2, 1) := by decide +kernel
theorem dL_law_486 : decode cL_law 486 = .ok (.invokevirtual 82, 3) := by decide +kernel
theorem dL_law_489 : decode cL_law 489 = .ok (.iload 5, 2) := by decide +kernel
theorem dL_law_491 : decode cL_law 491 = .ok (.if_icmp .eq 5, 3) := by decide +kernel
theorem dL_law_494 : decode cL_law 494 = .ok (.iconst 0, 1) := by decide +kernel
theorem dL_law_495 : decode cL_law 495 = .ok (.ireturn, 1) := by decide +kernel
theorem dL_law_496 : decode cL_law 496 = .ok (.goto 796, 3) := by decide +kernel
theorem dL_law_499 : decode cL_law 499 = .ok (.aload_n 1, 1) := by decide +kernel
theorem dL_law_500 : decode cL_law 500 = .ok (.aload_n 0, 1) := by decide +kernel
theorem dL_law_501 : decode cL_law 501 = .ok (.iload 4, 2) := by decide +kernel
theorem dL_law_503 : decode cL_law 503 = .ok (.iconst 1, 1) := by decide +kernel
theorem dL_law_504 : decode cL_law 504 = .ok (.iadd, 1) := by decide +kernel
theorem dL_law_505 : decode cL_law 505 = .ok (.iaload, 1) := by decide +kernel
theorem dL_law_506 : decode cL_law 506 = .ok (.aload_n 0, 1) := by decide +kernel
theorem dL_law_507 : decode cL_law 507 = .ok (.iload 4, 2) := by decide +kernel
theorem dL_law_509 : decode cL_law 509 = .ok (.iconst 2, 1) := by decide +kernel
theorem dL_law_510 : decode cL_law 510 = .ok (.iadd, 1) := by decide +kernel
theorem dL_law_511 : decode cL_law 511 = .ok (.iaload, 1) := by decide +kernel
theorem dL_law_512 : decode cL_law 512 = .ok (.i2l, 1) := by decide +kernel
theorem dL_law_513 : decode cL_law 513 = .ok (.bipush 32, 2) := by decide +kernel
theorem dL_law_515 : decode cL_law 515 = .ok (.lshl, 1) := by decide +kernel
theorem dL_law_516 : decode cL_law 516 = .ok (.aload_n 0, 1) := by decide +kernel
theorem dL_law_517 : decode cL_law 517 = .ok (.iload 4, 2) := by decide +kernel
theorem dL_law_519 : decode cL_law 519 = .ok (.iconst 3, 1) := by decide +kernel
theorem dL_law_520 : decode cL_law 520 = .ok (.iadd, 1) := by decide +kernel
theorem dL_law_521 : decode cL_law 521 = .ok (.iaload, 1) := by decide +kernel
theorem dL_law_522 : decode cL_law 522 = .ok (.i2l, 1) := by decide +kernel
theorem dL_law_523 : decode cL_law 523 = .ok (.ldc2_w 74, 3) := by decide +kernel
theorem dL_law_526 : decode cL_law 526 = .ok (.land, 1) := by decide +kernel
theorem dL_law_527 : decode cL_law 527 = .ok (.lor, 1) := by decide +kernel
theorem dL_law_528 : decode cL_law 528 = .ok (.aload_n 3, 1) := by decide +kernel
theorem dL_law_529 : decode cL_law 529 = .ok (.invokestatic 100, 3) := by decide +kernel
theorem dL_law_532 : decode cL_law 532 = .ok (.istore 5, 2) := by decide +kernel
theorem dL_law_534 : decode cL_law 534 = .ok (.aload_n 2, 1) := by decide +kernel
theorem dL_law_535 : decode cL_law 535 = .ok (.aload_n 0, 1) := by decide +kernel
theorem dL_law_536 : decode cL_law 536 = .ok (.iload 4, 2) := by decide +kernel
theorem dL_law_538 : decode cL_law 538 = .ok (.iconst 1, 1) := by decide +kernel
theorem dL_law_539 : decode cL_law 539 = .ok (.iadd, 1) := by decide +kernel
theorem dL_law_540 : decode cL_law 540 = .ok (.iaload, 1) := by decide +kernel
theorem dL_law_541 : decode cL_law 541 = .ok (.aload_n 0, 1) := by decide +kernel
theorem dL_law_542 : decode cL_law 542 = .ok (.iload 4, 2) := by decide +kernel
theorem dL_law_544 : decode cL_law 544 = .ok (.iconst 2, 1) := by decide +kernel
theorem dL_law_545 : decode cL_law 545 = .ok (.iadd, 1) := by decide +kernel
theorem dL_law_546 : decode cL_law 546 = .ok (.iaload, 1) := by decide +kernel
theorem dL_law_547 : decode cL_law 547 = .ok (.i2l, 1) := by decide +kernel
theorem dL_law_548 : decode cL_law 548 = .ok (.bipush 32, 2) := by decide +kernel
theorem dL_law_550 : decode cL_law 550 = .ok (.lshl, 1) := by decide +kernel
theorem dL_law_551 : decode cL_law 551 = .ok (.aload_n 0, 1) := by decide +kernel
theorem dL_law_552 : decode cL_law 552 = .ok (.iload 4, 2) := by decide +kernel
theorem dL_law_554 : decode cL_law 554 = .ok (.iconst 3, 1) := by decide +kernel
theorem dL_law_555 : decode cL_law 555 = .ok (.iadd, 1) := by decide +kernel
theorem dL_law_556 : decode cL_law 556 = .ok (.iaload, 1) := by decide +kernel
theorem dL_law_557 : decode cL_law 557 = .ok (.i2l, 1) := by decide +kernel
theorem dL_law_558 : decode cL_law 558 = .ok (.ldc2_w 74, 3) := by decide +kernel
theorem dL_law_561 : decode cL_law 561 = .ok (.land, 1) := by decide +kernel
theorem dL_law_562 : decode cL_law 562 = .ok (.lor, 1) := by decide +kernel
theorem dL_law_563 : decode cL_law 563 = .ok (.invokevirtual 103, 3) := by decide +kernel
theorem dL_law_566 : decode cL_law 566 = .ok (.lstore 6, 2) := by decide +kernel
theorem dL_law_568 : decode cL_law 568 = .ok (.aload_n 2, 1) := by decide +kernel
theorem dL_law_569 : decode cL_law 569 = .ok (.invokevirtual 82, 3) := by decide +kernel
theorem dL_law_572 : decode cL_law 572 = .ok (.iload 5, 2) := by decide +kernel
theorem dL_law_574 : decode cL_law 574 = .ok (.if_icmp .eq 5, 3) := by decide +kernel
theorem dL_law_577 : decode cL_law 577 = .ok (.iconst 0, 1) := by decide +kernel
theorem dL_law_578 : decode cL_law 578 = .ok (.ireturn, 1) := by decide +kernel
theorem dL_law_579 : decode cL_law 579 = .ok (.iload 5, 2) := by decide +kernel
theorem dL_law_581 : decode cL_law 581 = .ok (.ifCond .ne 14, 3) := by decide +kernel
theorem dL_law_584 : decode cL_law 584 = .ok (.aload_n 3, 1) := by decide +kernel
theorem dL_law_585 : decode cL_law 585 = .ok (.iconst 0, 1) := by decide +kernel
theorem dL_law_586 : decode cL_law 586 = .ok (.laload, 1) := by decide +kernel
theorem dL_law_587 : decode cL_law 587 = .ok (.lload 6, 2) := by decide +kernel
theorem dL_law_589 : decode cL_law 589 = .ok (.lcmp, 1) := by decide +kernel
theorem dL_law_590 : decode cL_law 590 = .ok (.ifCond .eq 5, 3) := by decide +kernel
theorem dL_law_593 : decode cL_law 593 = .ok (.iconst 0, 1) := by decide +kernel
theorem dL_law_594 : decode cL_law 594 = .ok (.ireturn, 1) := by decide +kernel
theorem dL_law_595 : decode cL_law 595 = .ok (.goto 697, 3) := by decide +kernel
theorem dL_law_598 : decode cL_law 598 = .ok (.aload_n 1, 1) := by decide +kernel
theorem dL_law_599 : decode cL_law 599 = .ok (.aload_n 0, 1) := by decide +kernel
theorem dL_law_600 : decode cL_law 600 = .ok (.iload 4, 2) := by decide +kernel
theorem dL_law_602 : decode cL_law 602 = .ok (.iconst 1, 1) := by decide +kernel
theorem dL_law_603 : decode cL_law 603 = .ok (.iadd, 1) := by decide +kernel
theorem dL_law_604 : decode cL_law 604 = .ok (.iaload, 1) := by decide +kernel
theorem dL_law_605 : decode cL_law 605 = .ok (.aload_n 0, 1) := by decide +kernel
theorem dL_law_606 : decode cL_law 606 = .ok (.iload 4, 2) := by decide +kernel
theorem dL_law_608 : decode cL_law 608 = .ok (.iconst 2, 1) := by decide +kernel
theorem dL_law_609 : decode cL_law 609 = .ok (.iadd, 1) := by decide +kernel
theorem dL_law_610 : decode cL_law 610 = .ok (.iaload, 1) := by decide +kernel
theorem dL_law_611 : decode cL_law 611 = .ok (.i2l, 1) := by decide +kernel
theorem dL_law_612 : decode cL_law 612 = .ok (.bipush 32, 2) := by decide +kernel
theorem dL_law_614 : decode cL_law 614 = .ok (.lshl, 1) := by decide +kernel
theorem dL_law_615 : decode cL_law 615 = .ok (.aload_n 0, 1) := by decide +kernel
theorem dL_law_616 : decode cL_law 616 = .ok (.iload 4, 2) := by decide +kernel
theorem dL_law_618 : decode cL_law 618 = .ok (.iconst 3, 1) := by decide +kernel
theorem dL_law_619 : decode cL_law 619 = .ok (.iadd, 1) := by decide +kernel
theorem dL_law_620 : decode cL_law 620 = .ok (.iaload, 1) := by decide +kernel
theorem dL_law_621 : decode cL_law 621 = .ok (.i2l, 1) := by decide +kernel
theorem dL_law_622 : decode cL_law 622 = .ok (.ldc2_w 74, 3) := by decide +kernel
theorem dL_law_625 : decode cL_law 625 = .ok (.land, 1) := by decide +kernel
theorem dL_law_626 : decode cL_law 626 = .ok (.lor, 1) := by decide +kernel
theorem dL_law_627 : decode cL_law 627 = .ok (.aload_n 3, 1) := by decide +kernel
theorem dL_law_628 : decode cL_law 628 = .ok (.invokestatic 104, 3) := by decide +kernel
theorem dL_law_631 : decode cL_law 631 = .ok (.istore 5, 2) := by decide +kernel
theorem dL_law_633 : decode cL_law 633 = .ok (.aload_n 2, 1) := by decide +kernel
theorem dL_law_634 : decode cL_law 634 = .ok (.aload_n 0, 1) := by decide +kernel
theorem dL_law_635 : decode cL_law 635 = .ok (.iload 4, 2) := by decide +kernel
theorem dL_law_637 : decode cL_law 637 = .ok (.iconst 1, 1) := by decide +kernel
theorem dL_law_638 : decode cL_law 638 = .ok (.iadd, 1) := by decide +kernel
theorem dL_law_639 : decode cL_law 639 = .ok (.iaload, 1) := by decide +kernel
theorem dL_law_640 : decode cL_law 640 = .ok (.aload_n 0, 1) := by decide +kernel
theorem dL_law_641 : decode cL_law 641 = .ok (.iload 4, 2) := by decide +kernel
theorem dL_law_643 : decode cL_law 643 = .ok (.iconst 2, 1) := by decide +kernel
theorem dL_law_644 : decode cL_law 644 = .ok (.iadd, 1) := by decide +kernel
theorem dL_law_645 : decode cL_law 645 = .ok (.iaload, 1) := by decide +kernel
theorem dL_law_646 : decode cL_law 646 = .ok (.i2l, 1) := by decide +kernel
theorem dL_law_647 : decode cL_law 647 = .ok (.bipush 32, 2) := by decide +kernel
theorem dL_law_649 : decode cL_law 649 = .ok (.lshl, 1) := by decide +kernel
theorem dL_law_650 : decode cL_law 650 = .ok (.aload_n 0, 1) := by decide +kernel
theorem dL_law_651 : decode cL_law 651 = .ok (.iload 4, 2) := by decide +kernel
theorem dL_law_653 : decode cL_law 653 = .ok (.iconst 3, 1) := by decide +kernel
theorem dL_law_654 : decode cL_law 654 = .ok (.iadd, 1) := by decide +kernel
theorem dL_law_655 : decode cL_law 655 = .ok (.iaload, 1) := by decide +kernel
theorem dL_law_656 : decode cL_law 656 = .ok (.i2l, 1) := by decide +kernel
theorem dL_law_657 : decode cL_law 657 = .ok (.ldc2_w 74, 3) := by decide +kernel
theorem dL_law_660 : decode cL_law 660 = .ok (.land, 1) := by decide +kernel
theorem dL_law_661 : decode cL_law 661 = .ok (.lor, 1) := by decide +kernel
theorem dL_law_662 : decode cL_law 662 = .ok (.invokevirtual 106, 3) := by decide +kernel
theorem dL_law_665 : decode cL_law 665 = .ok (.lstore 6, 2) := by decide +kernel
theorem dL_law_667 : decode cL_law 667 = .ok (.aload_n 2, 1) := by decide +kernel
theorem dL_law_668 : decode cL_law 668 = .ok (.invokevirtual 82, 3) := by decide +kernel
theorem dL_law_671 : decode cL_law 671 = .ok (.iload 5, 2) := by decide +kernel
theorem dL_law_673 : decode cL_law 673 = .ok (.if_icmp .eq 5, 3) := by decide +kernel
theorem dL_law_676 : decode cL_law 676 = .ok (.iconst 0, 1) := by decide +kernel
theorem dL_law_677 : decode cL_law 677 = .ok (.ireturn, 1) := by decide +kernel
theorem dL_law_678 : decode cL_law 678 = .ok (.iload 5, 2) := by decide +kernel
theorem dL_law_680 : decode cL_law 680 = .ok (.ifCond .ne 14, 3) := by decide +kernel
theorem dL_law_683 : decode cL_law 683 = .ok (.aload_n 3, 1) := by decide +kernel
theorem dL_law_684 : decode cL_law 684 = .ok (.iconst 0, 1) := by decide +kernel
theorem dL_law_685 : decode cL_law 685 = .ok (.laload, 1) := by decide +kernel
theorem dL_law_686 : decode cL_law 686 = .ok (.lload 6, 2) := by decide +kernel
theorem dL_law_688 : decode cL_law 688 = .ok (.lcmp, 1) := by decide +kernel
theorem dL_law_689 : decode cL_law 689 = .ok (.ifCond .eq 5, 3) := by decide +kernel
theorem dL_law_692 : decode cL_law 692 = .ok (.iconst 0, 1) := by decide +kernel
theorem dL_law_693 : decode cL_law 693 = .ok (.ireturn, 1) := by decide +kernel
theorem dL_law_694 : decode cL_law 694 = .ok (.goto 598, 3) := by decide +kernel
theorem dL_law_697 : decode cL_law 697 = .ok (.aload_n 1, 1) := by decide +kernel
theorem dL_law_698 : decode cL_law 698 = .ok (.aload_n 0, 1) := by decide +kernel
theorem dL_law_699 : decode cL_law 699 = .ok (.iload 4, 2) := by decide +kernel
theorem dL_law_701 : decode cL_law 701 = .ok (.iconst 1, 1) := by decide +kernel
theorem dL_law_702 : decode cL_law 702 = .ok (.iadd, 1) := by decide +kernel
theorem dL_law_703 : decode cL_law 703 = .ok (.iaload, 1) := by decide +kernel
theorem dL_law_704 : decode cL_law 704 = .ok (.aload_n 0, 1) := by decide +kernel
theorem dL_law_705 : decode cL_law 705 = .ok (.iload 4, 2) := by decide +kernel
theorem dL_law_707 : decode cL_law 707 = .ok (.iconst 2, 1) := by decide +kernel
theorem dL_law_708 : decode cL_law 708 = .ok (.iadd, 1) := by decide +kernel
theorem dL_law_709 : decode cL_law 709 = .ok (.iaload, 1) := by decide +kernel
theorem dL_law_710 : decode cL_law 710 = .ok (.aload_n 0, 1) := by decide +kernel
theorem dL_law_711 : decode cL_law 711 = .ok (.iload 4, 2) := by decide +kernel
theorem dL_law_713 : decode cL_law 713 = .ok (.iconst 3, 1) := by decide +kernel
theorem dL_law_714 : decode cL_law 714 = .ok (.iadd, 1) := by decide +kernel
theorem dL_law_715 : decode cL_law 715 = .ok (.iaload, 1) := by decide +kernel
theorem dL_law_716 : decode cL_law 716 = .ok (.aload_n 0, 1) := by decide +kernel
theorem dL_law_717 : decode cL_law 717 = .ok (.iload 4, 2) := by decide +kernel
theorem dL_law_719 : decode cL_law 719 = .ok (.iconst 4, 1) := by decide +kernel
theorem dL_law_720 : decode cL_law 720 = .ok (.iadd, 1) := by decide +kernel
theorem dL_law_721 : decode cL_law 721 = .ok (.iaload, 1) := by decide +kernel
theorem dL_law_722 : decode cL_law 722 = .ok (.aload_n 0, 1) := by decide +kernel
theorem dL_law_723 : decode cL_law 723 = .ok (.iload 4, 2) := by decide +kernel
theorem dL_law_725 : decode cL_law 725 = .ok (.iconst 5, 1) := by decide +kernel
theorem dL_law_726 : decode cL_law 726 = .ok (.iadd, 1) := by decide +kernel
theorem dL_law_727 : decode cL_law 727 = .ok (.iaload, 1) := by decide +kernel
theorem dL_law_728 : decode cL_law 728 = .ok (.aload_n 3, 1) := by decide +kernel
theorem dL_law_729 : decode cL_law 729 = .ok (.invokestatic 107, 3) := by decide +kernel
theorem dL_law_732 : decode cL_law 732 = .ok (.istore 5, 2) := by decide +kernel
theorem dL_law_734 : decode cL_law 734 = .ok (.aload_n 2, 1) := by decide +kernel
theorem dL_law_735 : decode cL_law 735 = .ok (.aload_n 0, 1) := by decide +kernel
theorem dL_law_736 : decode cL_law 736 = .ok (.iload 4, 2) := by decide +kernel
theorem dL_law_738 : decode cL_law 738 = .ok (.iconst 1, 1) := by decide +kernel
theorem dL_law_739 : decode cL_law 739 = .ok (.iadd, 1) := by decide +kernel
theorem dL_law_740 : decode cL_law 740 = .ok (.iaload, 1) := by decide +kernel
theorem dL_law_741 : decode cL_law 741 = .ok (.aload_n 0, 1) := by decide +kernel
theorem dL_law_742 : decode cL_law 742 = .ok (.iload 4, 2) := by decide +kernel
theorem dL_law_744 : decode cL_law 744 = .ok (.iconst 2, 1) := by decide +kernel
theorem dL_law_745 : decode cL_law 745 = .ok (.iadd, 1) := by decide +kernel
theorem dL_law_746 : decode cL_law 746 = .ok (.iaload, 1) := by decide +kernel
theorem dL_law_747 : decode cL_law 747 = .ok (.aload_n 0, 1) := by decide +kernel
theorem dL_law_748 : decode cL_law 748 = .ok (.iload 4, 2) := by decide +kernel
theorem dL_law_750 : decode cL_law 750 = .ok (.iconst 3, 1) := by decide +kernel
theorem dL_law_751 : decode cL_law 751 = .ok (.iadd, 1) := by decide +kernel
theorem dL_law_752 : decode cL_law 752 = .ok (.iaload, 1) := by decide +kernel
theorem dL_law_753 : decode cL_law 753 = .ok (.aload_n 0, 1) := by decide +kernel
theorem dL_law_754 : decode cL_law 754 = .ok (.iload 4, 2) := by decide +kernel
theorem dL_law_756 : decode cL_law 756 = .ok (.iconst 4, 1) := by decide +kernel
theorem dL_law_757 : decode cL_law 757 = .ok (.iadd, 1) := by decide +kernel
theorem dL_law_758 : decode cL_law 758 = .ok (.iaload, 1) := by decide +kernel
theorem dL_law_759 : decode cL_law 759 = .ok (.aload_n 0, 1) := by decide +kernel
theorem dL_law_760 : decode cL_law 760 = .ok (.iload 4, 2) := by decide +kernel
theorem dL_law_762 : decode cL_law 762 = .ok (.iconst 5, 1) := by decide +kernel
theorem dL_law_763 : decode cL_law 763 = .ok (.iadd, 1) := by decide +kernel
theorem dL_law_764 : decode cL_law 764 = .ok (.iaload, 1) := by decide +kernel
theorem dL_law_765 : decode cL_law 765 = .ok (.invokevirtual 110, 3) := by decide +kernel
theorem dL_law_768 : decode cL_law 768 = .ok (.istore 6, 2) := by decide +kernel
theorem dL_law_770 : decode cL_law 770 = .ok (.aload_n 2, 1) := by decide +kernel
theorem dL_law_771 : decode cL_law 771 = .ok (.invokevirtual 82, 3) := by decide +kernel
theorem dL_law_774 : decode cL_law 774 = .ok (.iload 5, 2) := by decide +kernel
theorem dL_law_776 : decode cL_law 776 = .ok (.if_icmp .eq 5, 3) := by decide +kernel
theorem dL_law_779 : decode cL_law 779 = .ok (.iconst 0, 1) := by decide +kernel
theorem dL_law_780 : decode cL_law 780 = .ok (.ireturn, 1) := by decide +kernel
theorem dL_law_781 : decode cL_law 781 = .ok (.iload 5, 2) := by decide +kernel
theorem dL_law_783 : decode cL_law 783 = .ok (.ifCond .ne 15, 3) := by decide +kernel
theorem dL_law_786 : decode cL_law 786 = .ok (.aload_n 3, 1) := by decide +kernel
theorem dL_law_787 : decode cL_law 787 = .ok (.iconst 0, 1) := by decide +kernel
theorem dL_law_788 : decode cL_law 788 = .ok (.laload, 1) := by decide +kernel
theorem dL_law_789 : decode cL_law 789 = .ok (.iload 6, 2) := by decide +kernel
theorem dL_law_791 : decode cL_law 791 = .ok (.i2l, 1) := by decide +kernel
theorem dL_law_792 : decode cL_law 792 = .ok (.lcmp, 1) := by decide +kernel
theorem dL_law_793 : decode cL_law 793 = .ok (.ifCond .eq 5, 3) := by decide +kernel
theorem dL_law_796 : decode cL_law 796 = .ok (.iconst 0, 1) := by decide +kernel
theorem dL_law_797 : decode cL_law 797 = .ok (.ireturn, 1) := by decide +kernel
theorem dL_law_798 : decode cL_law 798 = .ok (.goto 494, 3) := by decide +kernel
theorem dL_law_801 : decode cL_law 801 = .ok (.aload_n 1, 1) := by decide +kernel
theorem dL_law_802 : decode cL_law 802 = .ok (.aload_n 0, 1) := by decide +kernel
theorem dL_law_803 : decode cL_law 803 = .ok (.iload 4, 2) := by decide +kernel
theorem dL_law_805 : decode cL_law 805 = .ok (.iconst 1, 1) := by decide +kernel
theorem dL_law_806 : decode cL_law 806 = .ok (.iadd, 1) := by decide +kernel
theorem dL_law_807 : decode cL_law 807 = .ok (.iaload, 1) := by decide +kernel
theorem dL_law_808 : decode cL_law 808 = .ok (.aload_n 0, 1) := by decide +kernel
theorem dL_law_809 : decode cL_law 809 = .ok (.iload 4, 2) := by decide +kernel
theorem dL_law_811 : decode cL_law 811 = .ok (.iconst 2, 1) := by decide +kernel
theorem dL_law_812 : decode cL_law 812 = .ok (.iadd, 1) := by decide +kernel
theorem dL_law_813 : decode cL_law 813 = .ok (.iaload, 1) := by decide +kernel
theorem dL_law_814 : decode cL_law 814 = .ok (.aload_n 3, 1) := by decide +kernel
theorem dL_law_815 : decode cL_law 815 = .ok (.invokestatic 111, 3) := by decide +kernel
theorem dL_law_818 : decode cL_law 818 = .ok (.istore 5, 2) := by decide +kernel
theorem dL_law_820 : decode cL_law 820 = .ok (.aload_n 2, 1) := by decide +kernel
theorem dL_law_821 : decode cL_law 821 = .ok (.aload_n 0, 1) := by decide +kernel
theorem dL_law_822 : decode cL_law 822 = .ok (.iload 4, 2) := by decide +kernel
theorem dL_law_824 : decode cL_law 824 = .ok (.iconst 1, 1) := by decide +kernel
theorem dL_law_825 : decode cL_law 825 = .ok (.iadd, 1) := by decide +kernel
theorem dL_law_826 : decode cL_law 826 = .ok (.iaload, 1) := by decide +kernel
theorem dL_law_827 : decode cL_law 827 = .ok (.aload_n 0, 1) := by decide +kernel
theorem dL_law_828 : decode cL_law 828 = .ok (.iload 4, 2) := by decide +kernel
theorem dL_law_830 : decode cL_law 830 = .ok (.iconst 2, 1) := by decide +kernel
theorem dL_law_831 : decode cL_law 831 = .ok (.iadd, 1) := by decide +kernel
theorem dL_law_832 : decode cL_law 832 = .ok (.iaload, 1) := by decide +kernel
theorem dL_law_833 : decode cL_law 833 = .ok (.invokevirtual 114, 3) := by decide +kernel
theorem dL_law_836 : decode cL_law 836 = .ok (.istore 6, 2) := by decide +kernel
theorem dL_law_838 : decode cL_law 838 = .ok (.aload_n 2, 1) := by decide +kernel
theorem dL_law_839 : decode cL_law 839 = .ok (.invokevirtual 82, 3) := by decide +kernel
theorem dL_law_842 : decode cL_law 842 = .ok (.iload 5, 2) := by decide +kernel
theorem dL_law_844 : decode cL_law 844 = .ok (.if_icmp .eq 5, 3) := by decide +kernel
theorem dL_law_847 : decode cL_law 847 = .ok (.iconst 0, 1) := by decide +kernel
theorem dL_law_848 : decode cL_law 848 = .ok (.ireturn, 1) := by decide +kernel
theorem dL_law_849 : decode cL_law 849 = .ok (.iload 5, 2) := by decide +kernel
theorem dL_law_851 : decode cL_law 851 = .ok (.ifCond .ne 15, 3) := by decide +kernel
theorem dL_law_854 : decode cL_law 854 = .ok (.aload_n 3, 1) := by decide +kernel
theorem dL_law_855 : decode cL_law 855 = .ok (.iconst 0, 1) := by decide +kernel
theorem dL_law_856 : decode cL_law 856 = .ok (.laload, 1) := by decide +kernel
theorem dL_law_857 : decode cL_law 857 = .ok (.iload 6, 2) := by decide +kernel
theorem dL_law_859 : decode cL_law 859 = .ok (.i2l, 1) := by decide +kernel
theorem dL_law_860 : decode cL_law 860 = .ok (.lcmp, 1) := by decide +kernel
theorem dL_law_861 : decode cL_law 861 = .ok (.ifCond .eq 5, 3) := by decide +kernel
theorem dL_law_864 : decode cL_law 864 = .ok (.iconst 0, 1) := by decide +kernel
theorem dL_law_865 : decode cL_law 865 = .ok (.ireturn, 1) := by decide +kernel
theorem dL_law_866 : decode cL_law 866 = .ok (.goto 426, 3) := by decide +kernel
theorem dL_law_869 : decode cL_law 869 = .ok (.aload_n 1, 1) := by decide +kernel
theorem dL_law_870 : decode cL_law 870 = .ok (.aload_n 0, 1) := by decide +kernel
theorem dL_law_871 : decode cL_law 871 = .ok (.iload 4, 2) := by decide +kernel
theorem dL_law_873 : decode cL_law 873 = .ok (.iconst 1, 1) := by decide +kernel
theorem dL_law_874 : decode cL_law 874 = .ok (.iadd, 1) := by decide +kernel
theorem dL_law_875 : decode cL_law 875 = .ok (.iaload, 1) := by decide +kernel
theorem dL_law_876 : decode cL_law 876 = .ok (.aload_n 3, 1) := by decide +kernel
theorem dL_law_877 : decode cL_law 877 = .ok (.invokestatic 115, 3) := by decide +kernel
theorem dL_law_880 : decode cL_law 880 = .ok (.istore 5, 2) := by decide +kernel
theorem dL_law_882 : decode cL_law 882 = .ok (.aload_n 2, 1) := by decide +kernel
theorem dL_law_883 : decode cL_law 883 = .ok (.aload_n 0, 1) := by decide +kernel
theorem dL_law_884 : decode cL_law 884 = .ok (.iload 4, 2) := by decide +kernel
theorem dL_law_886 : decode cL_law 886 = .ok (.iconst 1, 1) := by decide +kernel
theorem dL_law_887 : decode cL_law 887 = .ok (.iadd, 1) := by decide +kernel
theorem dL_law_888 : decode cL_law 888 = .ok (.iaload, 1) := by decide +kernel
theorem dL_law_889 : decode cL_law 889 = .ok (.invokevirtual 118, 3) := by decide +kernel
theorem dL_law_892 : decode cL_law 892 = .ok (.lstore 6, 2) := by decide +kernel
theorem dL_law_894 : decode cL_law 894 = .ok (.aload_n 2, 1) := by decide +kernel
theorem dL_law_895 : decode cL_law 895 = .ok (.invokevirtual 82, 3) := by decide +kernel
theorem dL_law_898 : decode cL_law 898 = .ok (.iload 5, 2) := by decide +kernel
theorem dL_law_900 : decode cL_law 900 = .ok (.if_icmp .eq 5, 3) := by decide +kernel
theorem dL_law_903 : decode cL_law 903 = .ok (.iconst 0, 1) := by decide +kernel
theorem dL_law_904 : decode cL_law 904 = .ok (.ireturn, 1) := by decide +kernel
theorem dL_law_905 : decode cL_law 905 = .ok (.iload 5, 2) := by decide +kernel
theorem dL_law_907 : decode cL_law 907 = .ok (.ifCond .ne 14, 3) := by decide +kernel
theorem dL_law_910 : decode cL_law 910 = .ok (.aload_n 3, 1) := by decide +kernel
theorem dL_law_911 : decode cL_law 911 = .ok (.iconst 0, 1) := by decide +kernel
theorem dL_law_912 : decode cL_law 912 = .ok (.laload, 1) := by decide +kernel
theorem dL_law_913 : decode cL_law 913 = .ok (.lload 6, 2) := by decide +kernel
theorem dL_law_915 : decode cL_law 915 = .ok (.lcmp, 1) := by decide +kernel
theorem dL_law_916 : decode cL_law 916 = .ok (.ifCond .eq 5, 3) := by decide +kernel
theorem dL_law_919 : decode cL_law 919 = .ok (.iconst 0, 1) := by decide +kernel
theorem dL_law_920 : decode cL_law 920 = .ok (.ireturn, 1) := by decide +kernel
theorem dL_law_921 : decode cL_law 921 = .ok (.goto 371, 3) := by decide +kernel
theorem dL_law_924 : decode cL_law 924 = .ok (.aload_n 1, 1) := by decide +kernel
theorem dL_law_925 : decode cL_law 925 = .ok (.aload_n 0, 1) := by decide +kernel
theorem dL_law_926 : decode cL_law 926 = .ok (.iload 4, 2) := by decide +kernel
theorem dL_law_928 : decode cL_law 928 = .ok (.iconst 1, 1) := by decide +kernel
theorem dL_law_929 : decode cL_law 929 = .ok (.iadd, 1) := by decide +kernel
theorem dL_law_930 : decode cL_law 930 = .ok (.iaload, 1) := by decide +kernel
theorem dL_law_931 : decode cL_law 931 = .ok (.aload_n 3, 1) := by decide +kernel
theorem dL_law_932 : decode cL_law 932 = .ok (.invokestatic 119, 3) := by decide +kernel
theorem dL_law_935 : decode cL_law 935 = .ok (.istore 5, 2) := by decide +kernel
theorem dL_law_937 : decode cL_law 937 = .ok (.aload_n 2, 1) := by decide +kernel
theorem dL_law_938 : decode cL_law 938 = .ok (.aload_n 0, 1) := by decide +kernel
theorem dL_law_939 : decode cL_law 939 = .ok (.iload 4, 2) := by decide +kernel
theorem dL_law_941 : decode cL_law 941 = .ok (.iconst 1, 1) := by decide +kernel
theorem dL_law_942 : decode cL_law 942 = .ok (.iadd, 1) := by decide +kernel
theorem dL_law_943 : decode cL_law 943 = .ok (.iaload, 1) := by decide +kernel
theorem dL_law_944 : decode cL_law 944 = .ok (.invokevirtual 121, 3) := by decide +kernel
theorem dL_law_947 : decode cL_law 947 = .ok (.lstore 6, 2) := by decide +kernel
theorem dL_law_949 : decode cL_law 949 = .ok (.aload_n 2, 1) := by decide +kernel
theorem dL_law_950 : decode cL_law 950 = .ok (.invokevirtual 82, 3) := by decide +kernel
theorem dL_law_953 : decode cL_law 953 = .ok (.iload 5, 2) := by decide +kernel
theorem dL_law_955 : decode cL_law 955 = .ok (.if_icmp .eq 5, 3) := by decide +kernel
theorem dL_law_958 : decode cL_law 958 = .ok (.iconst 0, 1) := by decide +kernel
theorem dL_law_959 : decode cL_law 959 = .ok (.ireturn, 1) := by decide +kernel
theorem dL_law_960 : decode cL_law 960 = .ok (.iload 5, 2) := by decide +kernel
theorem dL_law_962 : decode cL_law 962 = .ok (.ifCond .ne 14, 3) := by decide +kernel
theorem dL_law_965 : decode cL_law 965 = .ok (.aload_n 3, 1) := by decide +kernel
theorem dL_law_966 : decode cL_law 966 = .ok (.iconst 0, 1) := by decide +kernel
theorem dL_law_967 : decode cL_law 967 = .ok (.laload, 1) := by decide +kernel
theorem dL_law_968 : decode cL_law 968 = .ok (.lload 6, 2) := by decide +kernel
theorem dL_law_970 : decode cL_law 970 = .ok (.lcmp, 1) := by decide +kernel
theorem dL_law_971 : decode cL_law 971 = .ok (.ifCond .eq 5, 3) := by decide +kernel
theorem dL_law_974 : decode cL_law 974 = .ok (.iconst 0, 1) := by decide +kernel
theorem dL_law_975 : decode cL_law 975 = .ok (.ireturn, 1) := by decide +kernel
theorem dL_law_976 : decode cL_law 976 = .ok (.goto 316, 3) := by decide +kernel
theorem dL_law_979 : decode cL_law 979 = .ok (.aload_n 1, 1) := by decide +kernel
theorem dL_law_980 : decode cL_law 980 = .ok (.invokevirtual 122, 3) := by decide +kernel
theorem dL_law_983 : decode cL_law 983 = .ok (.aload_n 2, 1) := by decide +kernel
theorem dL_law_984 : decode cL_law 984 = .ok (.invokevirtual 125, 3) := by decide +kernel
theorem dL_law_987 : decode cL_law 987 = .ok (.if_icmp .eq 305, 3) := by decide +kernel
theorem dL_law_990 : decode cL_law 990 = .ok (.iconst 0, 1) := by decide +kernel
theorem dL_law_991 : decode cL_law 991 = .ok (.ireturn, 1) := by decide +kernel
theorem dL_law_992 : decode cL_law 992 = .ok (.aload_n 1, 1) := by decide +kernel
theorem dL_law_993 : decode cL_law 993 = .ok (.aload_n 0, 1) := by decide +kernel
theorem dL_law_994 : decode cL_law 994 = .ok (.iload 4, 2) := by decide +kernel
theorem dL_law_996 : decode cL_law 996 = .ok (.iconst 1, 1) := by decide +kernel
theorem dL_law_997 : decode cL_law 997 = .ok (.iadd, 1) := by decide +kernel
theorem dL_law_998 : decode cL_law 998 = .ok (.iaload, 1) := by decide +kernel
theorem dL_law_999 : decode cL_law 999 = .ok (.aload_n 3, 1) := by decide +kernel
theorem dL_law_1000 : decode cL_law 1000 = .ok (.invokestatic 126, 3) := by decide +kernel
theorem dL_law_1003 : decode cL_law 1003 = .ok (.istore 5, 2) := by decide +kernel
theorem dL_law_1005 : decode cL_law 1005 = .ok (.aload_n 2, 1) := by decide +kernel
theorem dL_law_1006 : decode cL_law 1006 = .ok (.aload_n 0, 1) := by decide +kernel
theorem dL_law_1007 : decode cL_law 1007 = .ok (.iload 4, 2) := by decide +kernel
theorem dL_law_1009 : decode cL_law 1009 = .ok (.iconst 1, 1) := by decide +kernel
theorem dL_law_1010 : decode cL_law 1010 = .ok (.iadd, 1) := by decide +kernel
theorem dL_law_1011 : decode cL_law 1011 = .ok (.iaload, 1) := by decide +kernel
theorem dL_law_1012 : decode cL_law 1012 = .ok (.invokevirtual 128, 3) := by decide +kernel
theorem dL_law_1015 : decode cL_law 1015 = .ok (.lstore 6, 2) := by decide +kernel
theorem dL_law_1017 : decode cL_law 1017 = .ok (.aload_n 2, 1) := by decide +kernel
theorem dL_law_1018 : decode cL_law 1018 = .ok (.invokevirtual 82, 3) := by decide +kernel
theorem dL_law_1021 : decode cL_law 1021 = .ok (.iload 5, 2) := by decide +kernel
theorem dL_law_1023 : decode cL_law 1023 = .ok (.if_icmp .eq 5, 3) := by decide +kernel
theorem dL_law_1026 : decode cL_law 1026 = .ok (.iconst 0, 1) := by decide +kernel
theorem dL_law_1027 : decode cL_law 1027 = .ok (.ireturn, 1) := by decide +kernel
theorem dL_law_1028 : decode cL_law 1028 = .ok (.iload 5, 2) := by decide +kernel
theorem dL_law_1030 : decode cL_law 1030 = .ok (.ifCond .ne 14, 3) := by decide +kernel
theorem dL_law_1033 : decode cL_law 1033 = .ok (.aload_n 3, 1) := by decide +kernel
theorem dL_law_1034 : decode cL_law 1034 = .ok (.iconst 0, 1) := by decide +kernel
theorem dL_law_1035 : decode cL_law 1035 = .ok (.laload, 1) := by decide +kernel
theorem dL_law_1036 : decode cL_law 1036 = .ok (.lload 6, 2) := by decide +kernel
theorem dL_law_1038 : decode cL_law 1038 = .ok (.lcmp, 1) := by decide +kernel
theorem dL_law_1039 : decode cL_law 1039 = .ok (.ifCond .eq 5, 3) := by decide +kernel
theorem dL_law_1042 : decode cL_law 1042 = .ok (.iconst 0, 1) := by decide +kernel
theorem dL_law_1043 : decode cL_law 1043 = .ok (.ireturn, 1) := by decide +kernel
theorem dL_law_1044 : decode cL_law 1044 = .ok (.goto 248, 3) := by decide +kernel
theorem dL_law_1047 : decode cL_law 1047 = .ok (.aload_n 1, 1) := by decide +kernel
theorem dL_law_1048 : decode cL_law 1048 = .ok (.aload_n 0, 1) := by decide +kernel
theorem dL_law_1049 : decode cL_law 1049 = .ok (.iload 4, 2) := by decide +kernel
theorem dL_law_1051 : decode cL_law 1051 = .ok (.iconst 1, 1) := by decide +kernel
theorem dL_law_1052 : decode cL_law 1052 = .ok (.iadd, 1) := by decide +kernel
theorem dL_law_1053 : decode cL_law 1053 = .ok (.iaload, 1) := by decide +kernel
theorem dL_law_1054 : decode cL_law 1054 = .ok (.aload_n 0, 1) := by decide +kernel
theorem dL_law_1055 : decode cL_law 1055 = .ok (.iload 4, 2) := by decide +kernel
theorem dL_law_1057 : decode cL_law 1057 = .ok (.iconst 2, 1) := by decide +kernel
theorem dL_law_1058 : decode cL_law 1058 = .ok (.iadd, 1) := by decide +kernel
theorem dL_law_1059 : decode cL_law 1059 = .ok (.iaload, 1) := by decide +kernel
theorem dL_law_1060 : decode cL_law 1060 = .ok (.aload_n 3, 1) := by decide +kernel
theorem dL_law_1061 : decode cL_law 1061 = .ok (.invokestatic 129, 3) := by decide +kernel
theorem dL_law_1064 : decode cL_law 1064 = .ok (.istore 5, 2) := by decide +kernel
theorem dL_law_1066 : decode cL_law 1066 = .ok (.aload_n 2, 1) := by decide +kernel
theorem dL_law_1067 : decode cL_law 1067 = .ok (.aload_n 0, 1) := by decide +kernel
theorem dL_law_1068 : decode cL_law 1068 = .ok (.iload 4, 2) := by decide +kernel
theorem dL_law_1070 : decode cL_law 1070 = .ok (.iconst 1, 1) := by decide +kernel
theorem dL_law_1071 : decode cL_law 1071 = .ok (.iadd, 1) := by decide +kernel
theorem dL_law_1072 : decode cL_law 1072 = .ok (.iaload, 1) := by decide +kernel
theorem dL_law_1073 : decode cL_law 1073 = .ok (.aload_n 0, 1) := by decide +kernel
theorem dL_law_1074 : decode cL_law 1074 = .ok (.iload 4, 2) := by decide +kernel
theorem dL_law_1076 : decode cL_law 1076 = .ok (.iconst 2, 1) := by decide +kernel
theorem dL_law_1077 : decode cL_law 1077 = .ok (.iadd, 1) := by decide +kernel
theorem dL_law_1078 : decode cL_law 1078 = .ok (.iaload, 1) := by decide +kernel
theorem dL_law_1079 : decode cL_law 1079 = .ok (.invokevirtual 131, 3) := by decide +kernel
theorem dL_law_1082 : decode cL_law 1082 = .ok (.lstore 6, 2) := by decide +kernel
theorem dL_law_1084 : decode cL_law 1084 = .ok (.aload_n 2, 1) := by decide +kernel
theorem dL_law_1085 : decode cL_law 1085 = .ok (.invokevirtual 82, 3) := by decide +kernel
theorem dL_law_1088 : decode cL_law 1088 = .ok (.iload 5, 2) := by decide +kernel
theorem dL_law_1090 : decode cL_law 1090 = .ok (.if_icmp .eq 5, 3) := by decide +kernel
theorem dL_law_1093 : decode cL_law 1093 = .ok (.iconst 0, 1) := by decide +kernel
theorem dL_law_1094 : decode cL_law 1094 = .ok (.ireturn, 1) := by decide +kernel
theorem dL_law_1095 : decode cL_law 1095 = .ok (.iload 5, 2) := by decide +kernel
theorem dL_law_1097 : decode cL_law 1097 = .ok (.ifCond .ne 14, 3) := by decide +kernel
theorem dL_law_1100 : decode cL_law 1100 = .ok (.aload_n 3, 1) := by decide +kernel
theorem dL_law_1101 : decode cL_law 1101 = .ok (.iconst 0, 1) := by decide +kernel
theorem dL_law_1102 : decode cL_law 1102 = .ok (.laload, 1) := by decide +kernel
theorem dL_law_1103 : decode cL_law 1103 = .ok (.lload 6, 2) := by decide +kernel
theorem dL_law_1105 : decode cL_law 1105 = .ok (.lcmp, 1) := by decide +kernel
theorem dL_law_1106 : decode cL_law 1106 = .ok (.ifCond .eq 5, 3) := by decide +kernel
theorem dL_law_1109 : decode cL_law 1109 = .ok (.iconst 0, 1) := by decide +kernel
theorem dL_law_1110 : decode cL_law 1110 = .ok (.ireturn, 1) := by decide +kernel
theorem dL_law_1111 : decode cL_law 1111 = .ok (.goto 181, 3) := by decide +kernel
theorem dL_law_1114 : decode cL_law 1114 = .ok (.aload_n 1, 1) := by decide +kernel
theorem dL_law_1115 : decode cL_law 1115 = .ok (.aload_n 0, 1) := by decide +kernel
theorem dL_law_1116 : decode cL_law 1116 = .ok (.iload 4, 2) := by decide +kernel
theorem dL_law_1118 : decode cL_law 1118 = .ok (.iconst 1, 1) := by decide +kernel
theorem dL_law_1119 : decode cL_law 1119 = .ok (.iadd, 1) := by decide +kernel
theorem dL_law_1120 : decode cL_law 1120 = .ok (.iaload, 1) := by decide +kernel
theorem dL_law_1121 : decode cL_law 1121 = .ok (.aload_n 0, 1) := by decide +kernel
theorem dL_law_1122 : decode cL_law 1122 = .ok (.iload 4, 2) := by decide +kernel
theorem dL_law_1124 : decode cL_law 1124 = .ok (.iconst 2, 1) := by decide +kernel
theorem dL_law_1125 : decode cL_law 1125 = .ok (.iadd, 1) := by decide +kernel
theorem dL_law_1126 : decode cL_law 1126 = .ok (.iaload, 1) := by decide +kernel
theorem dL_law_1127 : decode cL_law 1127 = .ok (.aload_n 3, 1) := by decide +kernel
theorem dL_law_1128 : decode cL_law 1128 = .ok (.invokestatic 132, 3) := by decide +kernel
theorem dL_law_1131 : decode cL_law 1131 = .ok (.istore 5, 2) := by decide +kernel
theorem dL_law_1133 : decode cL_law 1133 = .ok (.aload_n 2, 1) := by decide +kernel
theorem dL_law_1134 : decode cL_law 1134 = .ok (.aload_n 0, 1) := by decide +kernel
theorem dL_law_1135 : decode cL_law 1135 = .ok (.iload 4, 2) := by decide +kernel
theorem dL_law_1137 : decode cL_law 1137 = .ok (.iconst 1, 1) := by decide +kernel
theorem dL_law_1138 : decode cL_law 1138 = .ok (.iadd, 1) := by decide +kernel
theorem dL_law_1139 : decode cL_law 1139 = .ok (.iaload, 1) := by decide +kernel
theorem dL_law_1140 : decode cL_law 1140 = .ok (.aload_n 0, 1) := by decide +kernel
theorem dL_law_1141 : decode cL_law 1141 = .ok (.iload 4, 2) := by decide +kernel
theorem dL_law_1143 : decode cL_law 1143 = .ok (.iconst 2, 1) := by decide +kernel
theorem dL_law_1144 : decode cL_law 1144 = .ok (.iadd, 1) := by decide +kernel
theorem dL_law_1145 : decode cL_law 1145 = .ok (.iaload, 1) := by decide +kernel
theorem dL_law_1146 : decode cL_law 1146 = .ok (.invokevirtual 134, 3) := by decide +kernel
theorem dL_law_1149 : decode cL_law 1149 = .ok (.istore 6, 2) := by decide +kernel
theorem dL_law_1151 : decode cL_law 1151 = .ok (.aload_n 2, 1) := by decide +kernel
theorem dL_law_1152 : decode cL_law 1152 = .ok (.invokevirtual 82, 3) := by decide +kernel
theorem dL_law_1155 : decode cL_law 1155 = .ok (.iload 5, 2) := by decide +kernel
theorem dL_law_1157 : decode cL_law 1157 = .ok (.if_icmp .eq 5, 3) := by decide +kernel
theorem dL_law_1160 : decode cL_law 1160 = .ok (.iconst 0, 1) := by decide +kernel
theorem dL_law_1161 : decode cL_law 1161 = .ok (.ireturn, 1) := by decide +kernel
theorem dL_law_1162 : decode cL_law 1162 = .ok (.iload 5, 2) := by decide +kernel
theorem dL_law_1164 : decode cL_law 1164 = .ok (.ifCond .ne 15, 3) := by decide +kernel
theorem dL_law_1167 : decode cL_law 1167 = .ok (.aload_n 3, 1) := by decide +kernel
theorem dL_law_1168 : decode cL_law 1168 = .ok (.iconst 0, 1) := by decide +kernel
theorem dL_law_1169 : decode cL_law 1169 = .ok (.laload, 1) := by decide +kernel
theorem dL_law_1170 : decode cL_law 1170 = .ok (.iload 6, 2) := by decide +kernel
theorem dL_law_1172 : decode cL_law 1172 = .ok (.i2l, 1) := by decide +kernel
theorem dL_law_1173 : decode cL_law 1173 = .ok (.lcmp, 1) := by decide +kernel
theorem dL_law_1174 : decode cL_law 1174 = .ok (.ifCond .eq 5, 3) := by decide +kernel
theorem dL_law_1177 : decode cL_law 1177 = .ok (.iconst 0, 1) := by decide +kernel
theorem dL_law_1178 : decode cL_law 1178 = .ok (.ireturn, 1) := by decide +kernel
theorem dL_law_1179 : decode cL_law 1179 = .ok (.goto 113, 3) := by decide +kernel
theorem dL_law_1182 : decode cL_law 1182 = .ok (.aload_n 1, 1) := by decide +kernel
theorem dL_law_1183 : decode cL_law 1183 = .ok (.aload_n 0, 1) := by decide +kernel
theorem dL_law_1184 : decode cL_law 1184 = .ok (.iload 4, 2) := by decide +kernel
theorem dL_law_1186 : decode cL_law 1186 = .ok (.iconst 1, 1) := by decide +kernel
theorem dL_law_1187 : decode cL_law 1187 = .ok (.iadd, 1) := by decide +kernel
theorem dL_law_1188 : decode cL_law 1188 = .ok (.iaload, 1) := by decide +kernel
theorem dL_law_1189 : decode cL_law 1189 = .ok (.aload_n 3, 1) := by decide +kernel
theorem dL_law_1190 : decode cL_law 1190 = .ok (.invokestatic 135, 3) := by decide +kernel
theorem dL_law_1193 : decode cL_law 1193 = .ok (.istore 5, 2) := by decide +kernel
theorem dL_law_1195 : decode cL_law 1195 = .ok (.aload_n 2, 1) := by decide +kernel
theorem dL_law_1196 : decode cL_law 1196 = .ok (.aload_n 0, 1) := by decide +kernel
theorem dL_law_1197 : decode cL_law 1197 = .ok (.iload 4, 2) := by decide +kernel
theorem dL_law_1199 : decode cL_law 1199 = .ok (.iconst 1, 1) := by decide +kernel
theorem dL_law_1200 : decode cL_law 1200 = .ok (.iadd, 1) := by decide +kernel
theorem dL_law_1201 : decode cL_law 1201 = .ok (.iaload, 1) := by decide +kernel
theorem dL_law_1202 : decode cL_law 1202 = .ok (.invokevirtual 137, 3) := by decide +kernel
theorem dL_law_1205 : decode cL_law 1205 = .ok (.lstore 6, 2) := by decide +kernel
theorem dL_law_1207 : decode cL_law 1207 = .ok (.aload_n 2, 1) := by decide +kernel
theorem dL_law_1208 : decode cL_law 1208 = .ok (.invokevirtual 82, 3) := by decide +kernel
theorem dL_law_1211 : decode cL_law 1211 = .ok (.iload 5, 2) := by decide +kernel
theorem dL_law_1213 : decode cL_law 1213 = .ok (.if_icmp .eq 5, 3) := by decide +kernel
theorem dL_law_1216 : decode cL_law 1216 = .ok (.iconst 0, 1) := by decide +kernel
theorem dL_law_1217 : decode cL_law 1217 = .ok (.ireturn, 1) := by decide +kernel
theorem dL_law_1218 : decode cL_law 1218 = .ok (.iload 5, 2) := by decide +kernel
theorem dL_law_1220 : decode cL_law 1220 = .ok (.ifCond .ne 14, 3) := by decide +kernel
theorem dL_law_1223 : decode cL_law 1223 = .ok (.aload_n 3, 1) := by decide +kernel
theorem dL_law_1224 : decode cL_law 1224 = .ok (.iconst 0, 1) := by decide +kernel
theorem dL_law_1225 : decode cL_law 1225 = .ok (.laload, 1) := by decide +kernel
theorem dL_law_1226 : decode cL_law 1226 = .ok (.lload 6, 2) := by decide +kernel
theorem dL_law_1228 : decode cL_law 1228 = .ok (.lcmp, 1) := by decide +kernel
theorem dL_law_1229 : decode cL_law 1229 = .ok (.ifCond .eq 5, 3) := by decide +kernel
theorem dL_law_1232 : decode cL_law 1232 = .ok (.iconst 0, 1) := by decide +kernel
theorem dL_law_1233 : decode cL_law 1233 = .ok (.ireturn, 1) := by decide +kernel
theorem dL_law_1234 : decode cL_law 1234 = .ok (.goto 58, 3) := by decide +kernel
theorem dL_law_1237 : decode cL_law 1237 = .ok (.aload_n 1, 1) := by decide +kernel
theorem dL_law_1238 : decode cL_law 1238 = .ok (.aload_n 0, 1) := by decide +kernel
theorem dL_law_1239 : decode cL_law 1239 = .ok (.iload 4, 2) := by decide +kernel
theorem dL_law_1241 : decode cL_law 1241 = .ok (.iconst 1, 1) := by decide +kernel
theorem dL_law_1242 : decode cL_law 1242 = .ok (.iadd, 1) := by decide +kernel
theorem dL_law_1243 : decode cL_law 1243 = .ok (.iaload, 1) := by decide +kernel
theorem dL_law_1244 : decode cL_law 1244 = .ok (.aload_n 3, 1) := by decide +kernel
theorem dL_law_1245 : decode cL_law 1245 = .ok (.invokestatic 138, 3) := by decide +kernel
theorem dL_law_1248 : decode cL_law 1248 = .ok (.istore 5, 2) := by decide +kernel
theorem dL_law_1250 : decode cL_law 1250 = .ok (.aload_n 2, 1) := by decide +kernel
theorem dL_law_1251 : decode cL_law 1251 = .ok (.aload_n 0, 1) := by decide +kernel
theorem dL_law_1252 : decode cL_law 1252 = .ok (.iload 4, 2) := by decide +kernel
theorem dL_law_1254 : decode cL_law 1254 = .ok (.iconst 1, 1) := by decide +kernel
theorem dL_law_1255 : decode cL_law 1255 = .ok (.iadd, 1) := by decide +kernel
theorem dL_law_1256 : decode cL_law 1256 = .ok (.iaload, 1) := by decide +kernel
theorem dL_law_1257 : decode cL_law 1257 = .ok (.invokevirtual 140, 3) := by decide +kernel
theorem dL_law_1260 : decode cL_law 1260 = .ok (.lstore 6, 2) := by decide +kernel
theorem dL_law_1262 : decode cL_law 1262 = .ok (.aload_n 2, 1) := by decide +kernel
theorem dL_law_1263 : decode cL_law 1263 = .ok (.invokevirtual 82, 3) := by decide +kernel
theorem dL_law_1266 : decode cL_law 1266 = .ok (.iload 5, 2) := by decide +kernel
theorem dL_law_1268 : decode cL_law 1268 = .ok (.if_icmp .eq 5, 3) := by decide +kernel
theorem dL_law_1271 : decode cL_law 1271 = .ok (.iconst 0, 1) := by decide +kernel
theorem dL_law_1272 : decode cL_law 1272 = .ok (.ireturn, 1) := by decide +kernel
theorem dL_law_1273 : decode cL_law 1273 = .ok (.iload 5, 2) := by decide +kernel
theorem dL_law_1275 : decode cL_law 1275 = .ok (.ifCond .ne 14, 3) := by decide +kernel
theorem dL_law_1278 : decode cL_law 1278 = .ok (.aload_n 3, 1) := by decide +kernel
theorem dL_law_1279 : decode cL_law 1279 = .ok (.iconst 0, 1) := by decide +kernel
theorem dL_law_1280 : decode cL_law 1280 = .ok (.laload, 1) := by decide +kernel
theorem dL_law_1281 : decode cL_law 1281 = .ok (.lload 6, 2) := by decide +kernel
theorem dL_law_1283 : decode cL_law 1283 = .ok (.lcmp, 1) := by decide +kernel
theorem dL_law_1284 : decode cL_law 1284 = .ok (.ifCond .eq 5, 3) := by decide +kernel
theorem dL_law_1287 : decode cL_law 1287 = .ok (.iconst 0, 1) := by decide +kernel
theorem dL_law_1288 : decode cL_law 1288 = .ok (.ireturn, 1) := by decide +kernel
theorem dL_law_1289 : decode cL_law 1289 = .ok (.goto 3, 3) := by decide +kernel
theorem dL_law_1292 : decode cL_law 1292 = .ok (.iinc 4 6, 3) := by decide +kernel
theorem dL_law_1295 : decode cL_law 1295 = .ok (.goto (-1272), 3) := by decide +kernel
theorem dL_law_1298 : decode cL_law 1298 = .ok (.iconst 1, 1) := by decide +kernel
theorem dL_law_1299 : decode cL_law 1299 = .ok (.ireturn, 1) := by decide +kernel
