theorem dX4_init_0 : decode cX4_init 0 = .ok (.aload_n 0, 1) := by decide +kernel
theorem dX4_init_1 : decode cX4_init 1 = .ok (.invokespecial 1, 3) := by decide +kernel
theorem dX4_init_4 : decode cX4_init 4 = .ok (.aload_n 0, 1) := by decide +kernel
theorem dX4_init_5 : decode cX4_init 5 = .ok (.bipush 8, 2) := by decide +kernel
theorem dX4_init_7 : decode cX4_init 7 = .ok (.anewarray 9, 3) := by decide +kernel
theorem dX4_init_10 : decode cX4_init 10 = .ok (.putfield 11, 3) := by decide +kernel
theorem dX4_init_13 : decode cX4_init 13 = .ok (.aload_n 0, 1) := by decide +kernel
theorem dX4_init_14 : decode cX4_init 14 = .ok (.bipush 6, 2) := by decide +kernel
theorem dX4_init_16 : decode cX4_init 16 = .ok (.anewarray 15, 3) := by decide +kernel
theorem dX4_init_19 : decode cX4_init 19 = .ok (.putfield 17, 3) := by decide +kernel
theorem dX4_init_22 : decode cX4_init 22 = .ok (.aload_n 0, 1) := by decide +kernel
theorem dX4_init_23 : decode cX4_init 23 = .ok (.bipush 8, 2) := by decide +kernel
theorem dX4_init_25 : decode cX4_init 25 = .ok (.bipush 6, 2) := by decide +kernel
theorem dX4_init_27 : decode cX4_init 27 = .ok (.multianewarray 21 2, 4) := by decide +kernel
theorem dX4_init_31 : decode cX4_init 31 = .ok (.putfield 23, 3) := by decide +kernel
theorem dX4_init_34 : decode cX4_init 34 = .ok (.aload_n 0, 1) := by decide +kernel
theorem dX4_init_35 : decode cX4_init 35 = .ok (.iconst 5, 1) := by decide +kernel
theorem dX4_init_36 : decode cX4_init 36 = .ok (.newarray .long, 2) := by decide +kernel
theorem dX4_init_38 : decode cX4_init 38 = .ok (.putfield 26, 3) := by decide +kernel
theorem dX4_init_41 : decode cX4_init 41 = .ok (.aload_n 0, 1) := by decide +kernel
theorem dX4_init_42 : decode cX4_init 42 = .ok (.new 30, 3) := by decide +kernel
theorem dX4_init_45 : decode cX4_init 45 = .ok (.dup, 1) := by decide +kernel
theorem dX4_init_46 : decode cX4_init 46 = .ok (.invokespecial 32, 3) := by decide +kernel
theorem dX4_init_49 : decode cX4_init 49 = .ok (.putfield 33, 3) := by decide +kernel
theorem dX4_init_52 : decode cX4_init 52 = .ok (.aload_n 0, 1) := by decide +kernel
theorem dX4_init_53 : decode cX4_init 53 = .ok (.iconst 0, 1) := by decide +kernel
theorem dX4_init_54 : decode cX4_init 54 = .ok (.putfield 37, 3) := by decide +kernel
theorem dX4_init_57 : decode cX4_init 57 = .ok (.aload_n 0, 1) := by decide +kernel
theorem dX4_init_58 : decode cX4_init 58 = .ok (.iconst 0, 1) := by decide +kernel
theorem dX4_init_59 : decode cX4_init 59 = .ok (.putfield 41, 3) := by decide +kernel
theorem dX4_init_62 : decode cX4_init 62 = .ok (.aload_n 0, 1) := by decide +kernel
theorem dX4_init_63 : decode cX4_init 63 = .ok (.iconst 0, 1) := by decide +kernel
theorem dX4_init_64 : decode cX4_init 64 = .ok (.putfield 44, 3) := by decide +kernel
theorem dX4_init_67 : decode cX4_init 67 = .ok (.aload_n 0, 1) := by decide +kernel
theorem dX4_init_68 : decode cX4_init 68 = .ok (.lconst 0, 1) := by decide +kernel
theorem dX4_init_69 : decode cX4_init 69 = .ok (.putfield 47, 3) := by decide +kernel
theorem dX4_init_72 : decode cX4_init 72 = .ok (.aload_n 0, 1) := by decide +kernel
theorem dX4_init_73 : decode cX4_init 73 = .ok (.lconst 0, 1) := by decide +kernel
theorem dX4_init_74 : decode cX4_init 74 = .ok (.putfield 51, 3) := by decide +kernel
theorem dX4_init_77 : decode cX4_init 77 = .ok (.iconst 0, 1) := by decide +kernel
theorem dX4_init_78 : decode cX4_init 78 = .ok (.istore_n 1, 1) := by decide +kernel
theorem dX4_init_79 : decode cX4_init 79 = .ok (.iload_n 1, 1) := by decide +kernel
theorem dX4_init_80 : decode cX4_init 80 = .ok (.bipush 8, 2) := by decide +kernel
theorem dX4_init_82 : decode cX4_init 82 = .ok (.if_icmp .ge 22, 3) := by decide +kernel
theorem dX4_init_85 : decode cX4_init 85 = .ok (.aload_n 0, 1) := by decide +kernel
theorem dX4_init_86 : decode cX4_init 86 = .ok (.getfield 11, 3) := by decide +kernel
theorem dX4_init_89 : decode cX4_init 89 = .ok (.iload_n 1, 1) := by decide +kernel
theorem dX4_init_90 : decode cX4_init 90 = .ok (.new 9, 3) := by decide +kernel
theorem dX4_init_93 : decode cX4_init 93 = .ok (.dup, 1) := by decide +kernel
theorem dX4_init_94 : decode cX4_init 94 = .ok (.invokespecial 54, 3) := by decide +kernel
theorem dX4_init_97 : decode cX4_init 97 = .ok (.aastore, 1) := by decide +kernel
theorem dX4_init_98 : decode cX4_init 98 = .ok (.iinc 1 1, 3) := by decide +kernel
theorem dX4_init_101 : decode cX4_init 101 = .ok (.goto (-22), 3) := by decide +kernel
theorem dX4_init_104 : decode cX4_init 104 = .ok (.iconst 0, 1) := by decide +kernel
theorem dX4_init_105 : decode cX4_init 105 = .ok (.istore_n 1, 1) := by decide +kernel
theorem dX4_init_106 : decode cX4_init 106 = .ok (.iload_n 1, 1) := by decide +kernel
theorem dX4_init_107 : decode cX4_init 107 = .ok (.bipush 6, 2) := by decide +kernel
theorem dX4_init_109 : decode cX4_init 109 = .ok (.if_icmp .ge 22, 3) := by decide +kernel
theorem dX4_init_112 : decode cX4_init 112 = .ok (.aload_n 0, 1) := by decide +kernel
theorem dX4_init_113 : decode cX4_init 113 = .ok (.getfield 17, 3) := by decide +kernel
theorem dX4_init_116 : decode cX4_init 116 = .ok (.iload_n 1, 1) := by decide +kernel
theorem dX4_init_117 : decode cX4_init 117 = .ok (.new 15, 3) := by decide +kernel
theorem dX4_init_120 : decode cX4_init 120 = .ok (.dup, 1) := by decide +kernel
theorem dX4_init_121 : decode cX4_init 121 = .ok (.invokespecial 55, 3) := by decide +kernel
theorem dX4_init_124 : decode cX4_init 124 = .ok (.aastore, 1) := by decide +kernel
theorem dX4_init_125 : decode cX4_init 125 = .ok (.iinc 1 1, 3) := by decide +kernel
theorem dX4_init_128 : decode cX4_init 128 = .ok (.goto (-22), 3) := by decide +kernel
theorem dX4_init_131 : decode cX4_init 131 = .ok (.return_, 1) := by decide +kernel
theorem dX4_member_0 : decode cX4_member 0 = .ok (.lload_n 1, 1) := by decide +kernel
theorem dX4_member_1 : decode cX4_member 1 = .ok (.lconst 0, 1) := by decide +kernel
theorem dX4_member_2 : decode cX4_member 2 = .ok (.ldc2_w 56, 3) := by decide +kernel
theorem dX4_member_5 : decode cX4_member 5 = .ok (.invokestatic 58, 3) := by decide +kernel
theorem dX4_member_8 : decode cX4_member 8 = .ok (.invokestatic 62, 3) := by decide +kernel
theorem dX4_member_11 : decode cX4_member 11 = .ok (.aload_n 0, 1) := by decide +kernel
theorem dX4_member_12 : decode cX4_member 12 = .ok (.getfield 37, 3) := by decide +kernel
theorem dX4_member_15 : decode cX4_member 15 = .ok (.bipush 8, 2) := by decide +kernel
theorem dX4_member_17 : decode cX4_member 17 = .ok (.if_icmp .ne 5, 3) := by decide +kernel
theorem dX4_member_20 : decode cX4_member 20 = .ok (.iconst (-1), 1) := by decide +kernel
theorem dX4_member_21 : decode cX4_member 21 = .ok (.ireturn, 1) := by decide +kernel
theorem dX4_member_22 : decode cX4_member 22 = .ok (.aload_n 0, 1) := by decide +kernel
theorem dX4_member_23 : decode cX4_member 23 = .ok (.getfield 11, 3) := by decide +kernel
theorem dX4_member_26 : decode cX4_member 26 = .ok (.aload_n 0, 1) := by decide +kernel
theorem dX4_member_27 : decode cX4_member 27 = .ok (.getfield 37, 3) := by decide +kernel
theorem dX4_member_30 : decode cX4_member 30 = .ok (.aaload, 1) := by decide +kernel
theorem dX4_member_31 : decode cX4_member 31 = .ok (.lload_n 1, 1) := by decide +kernel
theorem dX4_member_32 : decode cX4_member 32 = .ok (.putfield 66, 3) := by decide +kernel
theorem dX4_member_35 : decode cX4_member 35 = .ok (.aload_n 0, 1) := by decide +kernel
theorem dX4_member_36 : decode cX4_member 36 = .ok (.dup, 1) := by decide +kernel
theorem dX4_member_37 : decode cX4_member 37 = .ok (.getfield 37, 3) := by decide +kernel
theorem dX4_member_40 : decode cX4_member 40 = .ok (.iconst 1, 1) := by decide +kernel
theorem dX4_member_41 : decode cX4_member 41 = .ok (.iadd, 1) := by decide +kernel
theorem dX4_member_42 : decode cX4_member 42 = .ok (.putfield 37, 3) := by decide +kernel
theorem dX4_member_45 : decode cX4_member 45 = .ok (.aload_n 0, 1) := by decide +kernel
theorem dX4_member_46 : decode cX4_member 46 = .ok (.getfield 37, 3) := by decide +kernel
theorem dX4_member_49 : decode cX4_member 49 = .ok (.iconst 1, 1) := by decide +kernel
theorem dX4_member_50 : decode cX4_member 50 = .ok (.isub, 1) := by decide +kernel
theorem dX4_member_51 : decode cX4_member 51 = .ok (.ireturn, 1) := by decide +kernel
theorem dX4_instrument_0 : decode cX4_instrument 0 = .ok (.iload_n 1, 1) := by decide +kernel
theorem dX4_instrument_1 : decode cX4_instrument 1 = .ok (.i2l, 1) := by decide +kernel
theorem dX4_instrument_2 : decode cX4_instrument 2 = .ok (.lconst 0, 1) := by decide +kernel
theorem dX4_instrument_3 : decode cX4_instrument 3 = .ok (.ldc2_w 69, 3) := by decide +kernel
theorem dX4_instrument_6 : decode cX4_instrument 6 = .ok (.invokestatic 58, 3) := by decide +kernel
theorem dX4_instrument_9 : decode cX4_instrument 9 = .ok (.ifCond .eq 31, 3) := by decide +kernel
theorem dX4_instrument_12 : decode cX4_instrument 12 = .ok (.iload_n 2, 1) := by decide +kernel
theorem dX4_instrument_13 : decode cX4_instrument 13 = .ok (.i2l, 1) := by decide +kernel
theorem dX4_instrument_14 : decode cX4_instrument 14 = .ok (.lconst 0, 1) := by decide +kernel
theorem dX4_instrument_15 : decode cX4_instrument 15 = .ok (.ldc2_w 69, 3) := by decide +kernel
theorem dX4_instrument_18 : decode cX4_instrument 18 = .ok (.invokestatic 58, 3) := by decide +kernel
theorem dX4_instrument_21 : decode cX4_instrument 21 = .ok (.ifCond .eq 19, 3) := by decide +kernel
theorem dX4_instrument_24 : decode cX4_instrument 24 = .ok (.iload_n 3, 1) := by decide +kernel
theorem dX4_instrument_25 : decode cX4_instrument 25 = .ok (.i2l, 1) := by decide +kernel
theorem dX4_instrument_26 : decode cX4_instrument 26 = .ok (.lconst 0, 1) := by decide +kernel
theorem dX4_instrument_27 : decode cX4_instrument 27 = .ok (.ldc2_w 69, 3) := by decide +kernel
theorem dX4_instrument_30 : decode cX4_instrument 30 = .ok (.invokestatic 58, 3) := by decide +kernel
theorem dX4_instrument_33 : decode cX4_instrument 33 = .ok (.ifCond .eq 7, 3) := by decide +kernel
theorem dX4_instrument_36 : decode cX4_instrument 36 = .ok (.iconst 1, 1) := by decide +kernel
theorem dX4_instrument_37 : decode cX4_instrument 37 = .ok (.goto 4, 3) := by decide +kernel
theorem dX4_instrument_40 : decode cX4_instrument 40 = .ok (.iconst 0, 1) := by decide +kernel
theorem dX4_instrument_41 : decode cX4_instrument 41 = .ok (.invokestatic 62, 3) := by decide +kernel
theorem dX4_instrument_44 : decode cX4_instrument 44 = .ok (.aload_n 0, 1) := by decide +kernel
theorem dX4_instrument_45 : decode cX4_instrument 45 = .ok (.getfield 41, 3) := by decide +kernel
theorem dX4_instrument_48 : decode cX4_instrument 48 = .ok (.bipush 6, 2) := by decide +kernel
theorem dX4_instrument_50 : decode cX4_instrument 50 = .ok (.if_icmp .ne 5, 3) := by decide +kernel
theorem dX4_instrument_53 : decode cX4_instrument 53 = .ok (.iconst (-1), 1) := by decide +kernel
theorem dX4_instrument_54 : decode cX4_instrument 54 = .ok (.ireturn, 1) := by decide +kernel
theorem dX4_instrument_55 : decode cX4_instrument 55 = .ok (.aload_n 0, 1) := by decide +kernel
theorem dX4_instrument_56 : decode cX4_instrument 56 = .ok (.getfield 17, 3) := by decide +kernel
theorem dX4_instrument_59 : decode cX4_instrument 59 = .ok (.aload_n 0, 1) := by decide +kernel
theorem dX4_instrument_60 : decode cX4_instrument 60 = .ok (.getfield 41, 3) := by decide +kernel
theorem dX4_instrument_63 : decode cX4_instrument 63 = .ok (.aaload, 1) := by decide +kernel
theorem dX4_instrument_64 : decode cX4_instrument 64 = .ok (.astore 4, 2) := by decide +kernel
theorem dX4_instrument_66 : decode cX4_instrument 66 = .ok (.aload 4, 2) := by decide +kernel
theorem dX4_instrument_68 : decode cX4_instrument 68 = .ok (.iload_n 1, 1) := by decide +kernel
theorem dX4_instrument_69 : decode cX4_instrument 69 = .ok (.putfield 71, 3) := by decide +kernel
theorem dX4_instrument_72 : decode cX4_instrument 72 = .ok (.aload 4, 2) := by decide +kernel
theorem dX4_instrument_74 : decode cX4_instrument 74 = .ok (.iload_n 2, 1) := by decide +kernel
theorem dX4_instrument_75 : decode cX4_instrument 75 = .ok (.putfield 74, 3) := by decide +kernel
theorem dX4_instrument_78 : decode cX4_instrument 78 = .ok (.aload 4, 2) := by decide +kernel
theorem dX4_instrument_80 : decode cX4_instrument 80 = .ok (.iload_n 3, 1) := by decide +kernel
theorem dX4_instrument_81 : decode cX4_instrument 81 = .ok (.putfield 77, 3) := by decide +kernel
theorem dX4_instrument_84 : decode cX4_instrument 84 = .ok (.aload_n 0, 1) := by decide +kernel
theorem dX4_instrument_85 : decode cX4_instrument 85 = .ok (.dup, 1) := by decide +kernel
theorem dX4_instrument_86 : decode cX4_instrument 86 = .ok (.getfield 41, 3) := by decide +kernel
theorem dX4_instrument_89 : decode cX4_instrument 89 = .ok (.iconst 1, 1) := by decide +kernel
theorem dX4_instrument_90 : decode cX4_instrument 90 = .ok (.iadd, 1) := by decide +kernel
theorem dX4_instrument_91 : decode cX4_instrument 91 = .ok (.putfield 41, 3) := by decide +kernel
theorem dX4_instrument_94 : decode cX4_instrument 94 = .ok (.aload_n 0, 1) := by decide +kernel
theorem dX4_instrument_95 : decode cX4_instrument 95 = .ok (.getfield 41, 3) := by decide +kernel
theorem dX4_instrument_98 : decode cX4_instrument 98 = .ok (.iconst 1, 1) := by decide +kernel
theorem dX4_instrument_99 : decode cX4_instrument 99 = .ok (.isub, 1) := by decide +kernel
theorem dX4_instrument_100 : decode cX4_instrument 100 = .ok (.ireturn, 1) := by decide +kernel
theorem dX4_capital_0 : decode cX4_capital 0 = .ok (.lload_n 1, 1) := by decide +kernel
theorem dX4_capital_1 : decode cX4_capital 1 = .ok (.lconst 0, 1) := by decide +kernel
theorem dX4_capital_2 : decode cX4_capital 2 = .ok (.ldc2_w 56, 3) := by decide +kernel
theorem dX4_capital_5 : decode cX4_capital 5 = .ok (.invokestatic 58, 3) := by decide +kernel
theorem dX4_capital_8 : decode cX4_capital 8 = .ok (.invokestatic 62, 3) := by decide +kernel
theorem dX4_capital_11 : decode cX4_capital 11 = .ok (.aload_n 0, 1) := by decide +kernel
theorem dX4_capital_12 : decode cX4_capital 12 = .ok (.getfield 47, 3) := by decide +kernel
theorem dX4_capital_15 : decode cX4_capital 15 = .ok (.lload_n 1, 1) := by decide +kernel
theorem dX4_capital_16 : decode cX4_capital 16 = .ok (.ladd, 1) := by decide +kernel
theorem dX4_capital_17 : decode cX4_capital 17 = .ok (.invokestatic 80, 3) := by decide +kernel
theorem dX4_capital_20 : decode cX4_capital 20 = .ok (.ifCond .eq 7, 3) := by decide +kernel
theorem dX4_capital_23 : decode cX4_capital 23 = .ok (.ldc2_w 84, 3) := by decide +kernel
theorem dX4_capital_26 : decode cX4_capital 26 = .ok (.lreturn, 1) := by decide +kernel
theorem dX4_capital_27 : decode cX4_capital 27 = .ok (.aload_n 0, 1) := by decide +kernel
theorem dX4_capital_28 : decode cX4_capital 28 = .ok (.dup, 1) := by decide +kernel
theorem dX4_capital_29 : decode cX4_capital 29 = .ok (.getfield 47, 3) := by decide +kernel
theorem dX4_capital_32 : decode cX4_capital 32 = .ok (.lload_n 1, 1) := by decide +kernel
theorem dX4_capital_33 : decode cX4_capital 33 = .ok (.ladd, 1) := by decide +kernel
theorem dX4_capital_34 : decode cX4_capital 34 = .ok (.putfield 47, 3) := by decide +kernel
theorem dX4_capital_37 : decode cX4_capital 37 = .ok (.aload_n 0, 1) := by decide +kernel
theorem dX4_capital_38 : decode cX4_capital 38 = .ok (.getfield 47, 3) := by decide +kernel
theorem dX4_capital_41 : decode cX4_capital 41 = .ok (.lreturn, 1) := by decide +kernel
theorem dX4_move_0 : decode cX4_move 0 = .ok (.iload_n 1, 1) := by decide +kernel
theorem dX4_move_1 : decode cX4_move 1 = .ok (.i2l, 1) := by decide +kernel
theorem dX4_move_2 : decode cX4_move 2 = .ok (.lconst 0, 1) := by decide +kernel
theorem dX4_move_3 : decode cX4_move 3 = .ok (.ldc2_w 86, 3) := by decide +kernel
theorem dX4_move_6 : decode cX4_move 6 = .ok (.invokestatic 58, 3) := by decide +kernel
theorem dX4_move_9 : decode cX4_move 9 = .ok (.ifCond .eq 29, 3) := by decide +kernel
theorem dX4_move_12 : decode cX4_move 12 = .ok (.aload_n 0, 1) := by decide +kernel
theorem dX4_move_13 : decode cX4_move 13 = .ok (.iload_n 2, 1) := by decide +kernel
theorem dX4_move_14 : decode cX4_move 14 = .ok (.invokevirtual 88, 3) := by decide +kernel
theorem dX4_move_17 : decode cX4_move 17 = .ok (.ifCond .eq 21, 3) := by decide +kernel
theorem dX4_move_20 : decode cX4_move 20 = .ok (.iload_n 3, 1) := by decide +kernel
theorem dX4_move_21 : decode cX4_move 21 = .ok (.i2l, 1) := by decide +kernel
theorem dX4_move_22 : decode cX4_move 22 = .ok (.ldc2_w 92, 3) := by decide +kernel
theorem dX4_move_25 : decode cX4_move 25 = .ok (.ldc2_w 69, 3) := by decide +kernel
theorem dX4_move_28 : decode cX4_move 28 = .ok (.invokestatic 58, 3) := by decide +kernel
theorem dX4_move_31 : decode cX4_move 31 = .ok (.ifCond .eq 7, 3) := by decide +kernel
theorem dX4_move_34 : decode cX4_move 34 = .ok (.iconst 1, 1) := by decide +kernel
theorem dX4_move_35 : decode cX4_move 35 = .ok (.goto 4, 3) := by decide +kernel
theorem dX4_move_38 : decode cX4_move 38 = .ok (.iconst 0, 1) := by decide +kernel
theorem dX4_move_39 : decode cX4_move 39 = .ok (.invokestatic 62, 3) := by decide +kernel
theorem dX4_move_42 : decode cX4_move 42 = .ok (.aload_n 0, 1) := by decide +kernel
theorem dX4_move_43 : decode cX4_move 43 = .ok (.getfield 23, 3) := by decide +kernel
theorem dX4_move_46 : decode cX4_move 46 = .ok (.iload_n 1, 1) := by decide +kernel
theorem dX4_move_47 : decode cX4_move 47 = .ok (.aaload, 1) := by decide +kernel
theorem dX4_move_48 : decode cX4_move 48 = .ok (.iload_n 2, 1) := by decide +kernel
theorem dX4_move_49 : decode cX4_move 49 = .ok (.iload_n 3, 1) := by decide +kernel
theorem dX4_move_50 : decode cX4_move 50 = .ok (.iastore, 1) := by decide +kernel
theorem dX4_move_51 : decode cX4_move 51 = .ok (.return_, 1) := by decide +kernel
theorem dX4_bid_0 : decode cX4_bid 0 = .ok (.aload_n 0, 1) := by decide +kernel
theorem dX4_bid_1 : decode cX4_bid 1 = .ok (.iload_n 1, 1) := by decide +kernel
theorem dX4_bid_2 : decode cX4_bid 2 = .ok (.invokevirtual 94, 3) := by decide +kernel
theorem dX4_bid_5 : decode cX4_bid 5 = .ok (.ifCond .eq 27, 3) := by decide +kernel
theorem dX4_bid_8 : decode cX4_bid 8 = .ok (.aload_n 0, 1) := by decide +kernel
theorem dX4_bid_9 : decode cX4_bid 9 = .ok (.iload_n 2, 1) := by decide +kernel
theorem dX4_bid_10 : decode cX4_bid 10 = .ok (.invokevirtual 88, 3) := by decide +kernel
theorem dX4_bid_13 : decode cX4_bid 13 = .ok (.ifCond .eq 19, 3) := by decide +kernel
theorem dX4_bid_16 : decode cX4_bid 16 = .ok (.iload_n 3, 1) := by decide +kernel
theorem dX4_bid_17 : decode cX4_bid 17 = .ok (.i2l, 1) := by decide +kernel
theorem dX4_bid_18 : decode cX4_bid 18 = .ok (.lconst 0, 1) := by decide +kernel
theorem dX4_bid_19 : decode cX4_bid 19 = .ok (.ldc2_w 69, 3) := by decide +kernel
theorem dX4_bid_22 : decode cX4_bid 22 = .ok (.invokestatic 58, 3) := by decide +kernel
theorem dX4_bid_25 : decode cX4_bid 25 = .ok (.ifCond .eq 7, 3) := by decide +kernel
theorem dX4_bid_28 : decode cX4_bid 28 = .ok (.iconst 1, 1) := by decide +kernel
theorem dX4_bid_29 : decode cX4_bid 29 = .ok (.goto 4, 3) := by decide +kernel
theorem dX4_bid_32 : decode cX4_bid 32 = .ok (.iconst 0, 1) := by decide +kernel
theorem dX4_bid_33 : decode cX4_bid 33 = .ok (.invokestatic 62, 3) := by decide +kernel
theorem dX4_bid_36 : decode cX4_bid 36 = .ok (.aload_n 0, 1) := by decide +kernel
theorem dX4_bid_37 : decode cX4_bid 37 = .ok (.getfield 11, 3) := by decide +kernel
theorem dX4_bid_40 : decode cX4_bid 40 = .ok (.iload_n 1, 1) := by decide +kernel
theorem dX4_bid_41 : decode cX4_bid 41 = .ok (.aaload, 1) := by decide +kernel
theorem dX4_bid_42 : decode cX4_bid 42 = .ok (.getfield 97, 3) := by decide +kernel
theorem dX4_bid_45 : decode cX4_bid 45 = .ok (.iload_n 2, 1) := by decide +kernel
theorem dX4_bid_46 : decode cX4_bid 46 = .ok (.iload_n 3, 1) := by decide +kernel
theorem dX4_bid_47 : decode cX4_bid 47 = .ok (.iastore, 1) := by decide +kernel
theorem dX4_bid_48 : decode cX4_bid 48 = .ok (.return_, 1) := by decide +kernel
theorem dX4_deposit_0 : decode cX4_deposit 0 = .ok (.aload_n 0, 1) := by decide +kernel
theorem dX4_deposit_1 : decode cX4_deposit 1 = .ok (.iload_n 1, 1) := by decide +kernel
theorem dX4_deposit_2 : decode cX4_deposit 2 = .ok (.invokevirtual 94, 3) := by decide +kernel
theorem dX4_deposit_5 : decode cX4_deposit 5 = .ok (.ifCond .eq 18, 3) := by decide +kernel
theorem dX4_deposit_8 : decode cX4_deposit 8 = .ok (.lload_n 2, 1) := by decide +kernel
theorem dX4_deposit_9 : decode cX4_deposit 9 = .ok (.lconst 1, 1) := by decide +kernel
theorem dX4_deposit_10 : decode cX4_deposit 10 = .ok (.ldc2_w 56, 3) := by decide +kernel
theorem dX4_deposit_13 : decode cX4_deposit 13 = .ok (.invokestatic 58, 3) := by decide +kernel
theorem dX4_deposit_16 : decode cX4_deposit 16 = .ok (.ifCond .eq 7, 3) := by decide +kernel
theorem dX4_deposit_19 : decode cX4_deposit 19 = .ok (.iconst 1, 1) := by decide +kernel
theorem dX4_deposit_20 : decode cX4_deposit 20 = .ok (.goto 4, 3) := by decide +kernel
theorem dX4_deposit_23 : decode cX4_deposit 23 = .ok (.iconst 0, 1) := by decide +kernel
theorem dX4_deposit_24 : decode cX4_deposit 24 = .ok (.invokestatic 62, 3) := by decide +kernel
theorem dX4_deposit_27 : decode cX4_deposit 27 = .ok (.aload_n 0, 1) := by decide +kernel
theorem dX4_deposit_28 : decode cX4_deposit 28 = .ok (.getfield 11, 3) := by decide +kernel
theorem dX4_deposit_31 : decode cX4_deposit 31 = .ok (.iload_n 1, 1) := by decide +kernel
theorem dX4_deposit_32 : decode cX4_deposit 32 = .ok (.aaload, 1) := by decide +kernel
theorem dX4_deposit_33 : decode cX4_deposit 33 = .ok (.astore 4, 2) := by decide +kernel
theorem dX4_deposit_35 : decode cX4_deposit 35 = .ok (.aload 4, 2) := by decide +kernel
theorem dX4_deposit_37 : decode cX4_deposit 37 = .ok (.iconst 0, 1) := by decide +kernel
theorem dX4_deposit_38 : decode cX4_deposit 38 = .ok (.invokestatic 101, 3) := by decide +kernel
theorem dX4_deposit_41 : decode cX4_deposit 41 = .ok (.aload 4, 2) := by decide +kernel
theorem dX4_deposit_43 : decode cX4_deposit 43 = .ok (.getfield 105, 3) := by decide +kernel
theorem dX4_deposit_46 : decode cX4_deposit 46 = .ok (.lload_n 2, 1) := by decide +kernel
theorem dX4_deposit_47 : decode cX4_deposit 47 = .ok (.ladd, 1) := by decide +kernel
theorem dX4_deposit_48 : decode cX4_deposit 48 = .ok (.invokestatic 80, 3) := by decide +kernel
theorem dX4_deposit_51 : decode cX4_deposit 51 = .ok (.ifCond .eq 7, 3) := by decide +kernel
theorem dX4_deposit_54 : decode cX4_deposit 54 = .ok (.ldc2_w 84, 3) := by decide +kernel
theorem dX4_deposit_57 : decode cX4_deposit 57 = .ok (.lreturn, 1) := by decide +kernel
theorem dX4_deposit_58 : decode cX4_deposit 58 = .ok (.aload 4, 2) := by decide +kernel
theorem dX4_deposit_60 : decode cX4_deposit 60 = .ok (.dup, 1) := by decide +kernel
theorem dX4_deposit_61 : decode cX4_deposit 61 = .ok (.getfield 105, 3) := by decide +kernel
theorem dX4_deposit_64 : decode cX4_deposit 64 = .ok (.lload_n 2, 1) := by decide +kernel
theorem dX4_deposit_65 : decode cX4_deposit 65 = .ok (.ladd, 1) := by decide +kernel
theorem dX4_deposit_66 : decode cX4_deposit 66 = .ok (.putfield 105, 3) := by decide +kernel
theorem dX4_deposit_69 : decode cX4_deposit 69 = .ok (.aload 4, 2) := by decide +kernel
theorem dX4_deposit_71 : decode cX4_deposit 71 = .ok (.getfield 105, 3) := by decide +kernel
theorem dX4_deposit_74 : decode cX4_deposit 74 = .ok (.lreturn, 1) := by decide +kernel
theorem dX4_withdraw_0 : decode cX4_withdraw 0 = .ok (.aload_n 0, 1) := by decide +kernel
theorem dX4_withdraw_1 : decode cX4_withdraw 1 = .ok (.iload_n 1, 1) := by decide +kernel
theorem dX4_withdraw_2 : decode cX4_withdraw 2 = .ok (.invokevirtual 94, 3) := by decide +kernel
theorem dX4_withdraw_5 : decode cX4_withdraw 5 = .ok (.ifCond .eq 18, 3) := by decide +kernel
theorem dX4_withdraw_8 : decode cX4_withdraw 8 = .ok (.lload_n 2, 1) := by decide +kernel
theorem dX4_withdraw_9 : decode cX4_withdraw 9 = .ok (.lconst 1, 1) := by decide +kernel
theorem dX4_withdraw_10 : decode cX4_withdraw 10 = .ok (.ldc2_w 56, 3) := by decide +kernel
theorem dX4_withdraw_13 : decode cX4_withdraw 13 = .ok (.invokestatic 58, 3) := by decide +kernel
theorem dX4_withdraw_16 : decode cX4_withdraw 16 = .ok (.ifCond .eq 7, 3) := by decide +kernel
theorem dX4_withdraw_19 : decode cX4_withdraw 19 = .ok (.iconst 1, 1) := by decide +kernel
theorem dX4_withdraw_20 : decode cX4_withdraw 20 = .ok (.goto 4, 3) := by decide +kernel
theorem dX4_withdraw_23 : decode cX4_withdraw 23 = .ok (.iconst 0, 1) := by decide +kernel
theorem dX4_withdraw_24 : decode cX4_withdraw 24 = .ok (.invokestatic 62, 3) := by decide +kernel
theorem dX4_withdraw_27 : decode cX4_withdraw 27 = .ok (.aload_n 0, 1) := by decide +kernel
theorem dX4_withdraw_28 : decode cX4_withdraw 28 = .ok (.getfield 11, 3) := by decide +kernel
theorem dX4_withdraw_31 : decode cX4_withdraw 31 = .ok (.iload_n 1, 1) := by decide +kernel
theorem dX4_withdraw_32 : decode cX4_withdraw 32 = .ok (.aaload, 1) := by decide +kernel
theorem dX4_withdraw_33 : decode cX4_withdraw 33 = .ok (.astore 4, 2) := by decide +kernel
theorem dX4_withdraw_35 : decode cX4_withdraw 35 = .ok (.aload 4, 2) := by decide +kernel
theorem dX4_withdraw_37 : decode cX4_withdraw 37 = .ok (.iconst 0, 1) := by decide +kernel
theorem dX4_withdraw_38 : decode cX4_withdraw 38 = .ok (.invokestatic 101, 3) := by decide +kernel
theorem dX4_withdraw_41 : decode cX4_withdraw 41 = .ok (.aload 4, 2) := by decide +kernel
theorem dX4_withdraw_43 : decode cX4_withdraw 43 = .ok (.getfield 105, 3) := by decide +kernel
theorem dX4_withdraw_46 : decode cX4_withdraw 46 = .ok (.lload_n 2, 1) := by decide +kernel
theorem dX4_withdraw_47 : decode cX4_withdraw 47 = .ok (.lsub, 1) := by decide +kernel
theorem dX4_withdraw_48 : decode cX4_withdraw 48 = .ok (.aload_n 0, 1) := by decide +kernel
theorem dX4_withdraw_49 : decode cX4_withdraw 49 = .ok (.aload 4, 2) := by decide +kernel
theorem dX4_withdraw_51 : decode cX4_withdraw 51 = .ok (.invokevirtual 108, 3) := by decide +kernel
theorem dX4_withdraw_54 : decode cX4_withdraw 54 = .ok (.lcmp, 1) := by decide +kernel
theorem dX4_withdraw_55 : decode cX4_withdraw 55 = .ok (.ifCond .ge 7, 3) := by decide +kernel
theorem dX4_withdraw_58 : decode cX4_withdraw 58 = .ok (.ldc2_w 84, 3) := by decide +kernel
theorem dX4_withdraw_61 : decode cX4_withdraw 61 = .ok (.lreturn, 1) := by decide +kernel
theorem dX4_withdraw_62 : decode cX4_withdraw 62 = .ok (.aload 4, 2) := by decide +kernel
theorem dX4_withdraw_64 : decode cX4_withdraw 64 = .ok (.dup, 1) := by decide +kernel
theorem dX4_withdraw_65 : decode cX4_withdraw 65 = .ok (.getfield 105, 3) := by decide +kernel
theorem dX4_withdraw_68 : decode cX4_withdraw 68 = .ok (.lload_n 2, 1) := by decide +kernel
theorem dX4_withdraw_69 : decode cX4_withdraw 69 = .ok (.lsub, 1) := by decide +kernel
theorem dX4_withdraw_70 : decode cX4_withdraw 70 = .ok (.putfield 105, 3) := by decide +kernel
theorem dX4_withdraw_73 : decode cX4_withdraw 73 = .ok (.aload 4, 2) := by decide +kernel
theorem dX4_withdraw_75 : decode cX4_withdraw 75 = .ok (.getfield 105, 3) := by decide +kernel
theorem dX4_withdraw_78 : decode cX4_withdraw 78 = .ok (.lreturn, 1) := by decide +kernel
theorem dX4_trade_0 : decode cX4_trade 0 = .ok (.aload_n 0, 1) := by decide +kernel
theorem dX4_trade_1 : decode cX4_trade 1 = .ok (.iload_n 1, 1) := by decide +kernel
theorem dX4_trade_2 : decode cX4_trade 2 = .ok (.invokevirtual 94, 3) := by decide +kernel
theorem dX4_trade_5 : decode cX4_trade 5 = .ok (.ifCond .eq 28, 3) := by decide +kernel
theorem dX4_trade_8 : decode cX4_trade 8 = .ok (.aload_n 0, 1) := by decide +kernel
theorem dX4_trade_9 : decode cX4_trade 9 = .ok (.iload_n 2, 1) := by decide +kernel
theorem dX4_trade_10 : decode cX4_trade 10 = .ok (.invokevirtual 94, 3) := by decide +kernel
theorem dX4_trade_13 : decode cX4_trade 13 = .ok (.ifCond .eq 20, 3) := by decide +kernel
theorem dX4_trade_16 : decode cX4_trade 16 = .ok (.iload_n 1, 1) := by decide +kernel
theorem dX4_trade_17 : decode cX4_trade 17 = .ok (.iload_n 2, 1) := by decide +kernel
theorem dX4_trade_18 : decode cX4_trade 18 = .ok (.if_icmp .eq 15, 3) := by decide +kernel
theorem dX4_trade_21 : decode cX4_trade 21 = .ok (.aload_n 0, 1) := by decide +kernel
theorem dX4_trade_22 : decode cX4_trade 22 = .ok (.iload_n 3, 1) := by decide +kernel
theorem dX4_trade_23 : decode cX4_trade 23 = .ok (.invokevirtual 88, 3) := by decide +kernel
theorem dX4_trade_26 : decode cX4_trade 26 = .ok (.ifCond .eq 7, 3) := by decide +kernel
theorem dX4_trade_29 : decode cX4_trade 29 = .ok (.iconst 1, 1) := by decide +kernel
theorem dX4_trade_30 : decode cX4_trade 30 = .ok (.goto 4, 3) := by decide +kernel
theorem dX4_trade_33 : decode cX4_trade 33 = .ok (.iconst 0, 1) := by decide +kernel
theorem dX4_trade_34 : decode cX4_trade 34 = .ok (.invokestatic 62, 3) := by decide +kernel
theorem dX4_trade_37 : decode cX4_trade 37 = .ok (.iload 4, 2) := by decide +kernel
theorem dX4_trade_39 : decode cX4_trade 39 = .ok (.i2l, 1) := by decide +kernel
theorem dX4_trade_40 : decode cX4_trade 40 = .ok (.lconst 1, 1) := by decide +kernel
theorem dX4_trade_41 : decode cX4_trade 41 = .ok (.ldc2_w 112, 3) := by decide +kernel
theorem dX4_trade_44 : decode cX4_trade 44 = .ok (.invokestatic 58, 3) := by decide +kernel
theorem dX4_trade_47 : decode cX4_trade 47 = .ok (.ifCond .eq 20, 3) := by decide +kernel
theorem dX4_trade_50 : decode cX4_trade 50 = .ok (.iload 5, 2) := by decide +kernel
theorem dX4_trade_52 : decode cX4_trade 52 = .ok (.i2l, 1) := by decide +kernel
theorem dX4_trade_53 : decode cX4_trade 53 = .ok (.lconst 0, 1) := by decide +kernel
theorem dX4_trade_54 : decode cX4_trade 54 = .ok (.ldc2_w 69, 3) := by decide +kernel
theorem dX4_trade_57 : decode cX4_trade 57 = .ok (.invokestatic 58, 3) := by decide +kernel
theorem dX4_trade_60 : decode cX4_trade 60 = .ok (.ifCond .eq 7, 3) := by decide +kernel
theorem dX4_trade_63 : decode cX4_trade 63 = .ok (.iconst 1, 1) := by decide +kernel
theorem dX4_trade_64 : decode cX4_trade 64 = .ok (.goto 4, 3) := by decide +kernel
theorem dX4_trade_67 : decode cX4_trade 67 = .ok (.iconst 0, 1) := by decide +kernel
theorem dX4_trade_68 : decode cX4_trade 68 = .ok (.invokestatic 62, 3) := by decide +kernel
theorem dX4_trade_71 : decode cX4_trade 71 = .ok (.aload_n 0, 1) := by decide +kernel
theorem dX4_trade_72 : decode cX4_trade 72 = .ok (.getfield 11, 3) := by decide +kernel
theorem dX4_trade_75 : decode cX4_trade 75 = .ok (.iload_n 1, 1) := by decide +kernel
theorem dX4_trade_76 : decode cX4_trade 76 = .ok (.aaload, 1) := by decide +kernel
theorem dX4_trade_77 : decode cX4_trade 77 = .ok (.astore 6, 2) := by decide +kernel
theorem dX4_trade_79 : decode cX4_trade 79 = .ok (.aload_n 0, 1) := by decide +kernel
theorem dX4_trade_80 : decode cX4_trade 80 = .ok (.getfield 11, 3) := by decide +kernel
theorem dX4_trade_83 : decode cX4_trade 83 = .ok (.iload_n 2, 1) := by decide +kernel
theorem dX4_trade_84 : decode cX4_trade 84 = .ok (.aaload, 1) := by decide +kernel
theorem dX4_trade_85 : decode cX4_trade 85 = .ok (.astore 7, 2) := by decide +kernel
theorem dX4_trade_87 : decode cX4_trade 87 = .ok (.aload 6, 2) := by decide +kernel
theorem dX4_trade_89 : decode cX4_trade 89 = .ok (.iconst 0, 1) := by decide +kernel
theorem dX4_trade_90 : decode cX4_trade 90 = .ok (.invokestatic 101, 3) := by decide +kernel
theorem dX4_trade_93 : decode cX4_trade 93 = .ok (.aload 7, 2) := by decide +kernel
theorem dX4_trade_95 : decode cX4_trade 95 = .ok (.iconst 0, 1) := by decide +kernel
theorem dX4_trade_96 : decode cX4_trade 96 = .ok (.invokestatic 101, 3) := by decide +kernel
theorem dX4_trade_99 : decode cX4_trade 99 = .ok (.iload 4, 2) := by decide +kernel
theorem dX4_trade_101 : decode cX4_trade 101 = .ok (.i2l, 1) := by decide +kernel
theorem dX4_trade_102 : decode cX4_trade 102 = .ok (.aload_n 0, 1) := by decide +kernel
theorem dX4_trade_103 : decode cX4_trade 103 = .ok (.getfield 17, 3) := by decide +kernel
theorem dX4_trade_106 : decode cX4_trade 106 = .ok (.iload_n 3, 1) := by decide +kernel
theorem dX4_trade_107 : decode cX4_trade 107 = .ok (.aaload, 1) := by decide +kernel
theorem dX4_trade_108 : decode cX4_trade 108 = .ok (.getfield 71, 3) := by decide +kernel
theorem dX4_trade_111 : decode cX4_trade 111 = .ok (.iload 5, 2) := by decide +kernel
theorem dX4_trade_113 : decode cX4_trade 113 = .ok (.isub, 1) := by decide +kernel
theorem dX4_trade_114 : decode cX4_trade 114 = .ok (.i2l, 1) := by decide +kernel
theorem dX4_trade_115 : decode cX4_trade 115 = .ok (.lmul, 1) := by decide +kernel
theorem dX4_trade_116 : decode cX4_trade 116 = .ok (.lstore 8, 2) := by decide +kernel
theorem dX4_trade_118 : decode cX4_trade 118 = .ok (.aload 6, 2) := by decide +kernel
theorem dX4_trade_120 : decode cX4_trade 120 = .ok (.getfield 105, 3) := by decide +kernel
theorem dX4_trade_123 : decode cX4_trade 123 = .ok (.lload 8, 2) := by decide +kernel
theorem dX4_trade_125 : decode cX4_trade 125 = .ok (.ladd, 1) := by decide +kernel
theorem dX4_trade_126 : decode cX4_trade 126 = .ok (.invokestatic 80, 3) := by decide +kernel
theorem dX4_trade_129 : decode cX4_trade 129 = .ok (.ifCond .ne 49, 3) := by decide +kernel
theorem dX4_trade_132 : decode cX4_trade 132 = .ok (.aload 7, 2) := by decide +kernel
theorem dX4_trade_134 : decode cX4_trade 134 = .ok (.getfield 105, 3) := by decide +kernel
theorem dX4_trade_137 : decode cX4_trade 137 = .ok (.lload 8, 2) := by decide +kernel
theorem dX4_trade_139 : decode cX4_trade 139 = .ok (.lsub, 1) := by decide +kernel
theorem dX4_trade_140 : decode cX4_trade 140 = .ok (.invokestatic 80, 3) := by decide +kernel
theorem dX4_trade_143 : decode cX4_trade 143 = .ok (.ifCond .ne 35, 3) := by decide +kernel
theorem dX4_trade_146 : decode cX4_trade 146 = .ok (.aload 6, 2) := by decide +kernel
theorem dX4_trade_148 : decode cX4_trade 148 = .ok (.getfield 114, 3) := by decide +kernel
theorem dX4_trade_151 : decode cX4_trade 151 = .ok (.iload_n 3, 1) := by decide +kernel
theorem dX4_trade_152 : decode cX4_trade 152 = .ok (.iaload, 1) := by decide +kernel
theorem dX4_trade_153 : decode cX4_trade 153 = .ok (.iload 4, 2) := by decide +kernel
theorem dX4_trade_155 : decode cX4_trade 155 = .ok (.iadd, 1) := by decide +kernel
theorem dX4_trade_156 : decode cX4_trade 156 = .ok (.invokestatic 117, 3) := by decide +kernel
theorem dX4_trade_159 : decode cX4_trade 159 = .ok (.ifCond .ne 19, 3) := by decide +kernel
theorem dX4_trade_162 : decode cX4_trade 162 = .ok (.aload 7, 2) := by decide +kernel
theorem dX4_trade_164 : decode cX4_trade 164 = .ok (.getfield 114, 3) := by decide +kernel
theorem dX4_trade_167 : decode cX4_trade 167 = .ok (.iload_n 3, 1) := by decide +kernel
theorem dX4_trade_168 : decode cX4_trade 168 = .ok (.iaload, 1) := by decide +kernel
theorem dX4_trade_169 : decode cX4_trade 169 = .ok (.iload 4, 2) := by decide +kernel
theorem dX4_trade_171 : decode cX4_trade 171 = .ok (.isub, 1) := by decide +kernel
theorem dX4_trade_172 : decode cX4_trade 172 = .ok (.invokestatic 117, 3) := by decide +kernel
theorem dX4_trade_175 : decode cX4_trade 175 = .ok (.ifCond .eq 5, 3) := by decide +kernel
theorem dX4_trade_178 : decode cX4_trade 178 = .ok (.iconst (-1), 1) := by decide +kernel
theorem dX4_trade_179 : decode cX4_trade 179 = .ok (.ireturn, 1) := by decide +kernel
theorem dX4_trade_180 : decode cX4_trade 180 = .ok (.aload 6, 2) := by decide +kernel
theorem dX4_trade_182 : decode cX4_trade 182 = .ok (.dup, 1) := by decide +kernel
theorem dX4_trade_183 : decode cX4_trade 183 = .ok (.getfield 105, 3) := by decide +kernel
theorem dX4_trade_186 : decode cX4_trade 186 = .ok (.lload 8, 2) := by decide +kernel
theorem dX4_trade_188 : decode cX4_trade 188 = .ok (.ladd, 1) := by decide +kernel
theorem dX4_trade_189 : decode cX4_trade 189 = .ok (.putfield 105, 3) := by decide +kernel
theorem dX4_trade_192 : decode cX4_trade 192 = .ok (.aload 7, 2) := by decide +kernel
theorem dX4_trade_194 : decode cX4_trade 194 = .ok (.dup, 1) := by decide +kernel
theorem dX4_trade_195 : decode cX4_trade 195 = .ok (.getfield 105, 3) := by decide +kernel
theorem dX4_trade_198 : decode cX4_trade 198 = .ok (.lload 8, 2) := by decide +kernel
theorem dX4_trade_200 : decode cX4_trade 200 = .ok (.lsub, 1) := by decide +kernel
theorem dX4_trade_201 : decode cX4_trade 201 = .ok (.putfield 105, 3) := by decide +kernel
theorem dX4_trade_204 : decode cX4_trade 204 = .ok (.aload 6, 2) := by decide +kernel
theorem dX4_trade_206 : decode cX4_trade 206 = .ok (.getfield 114, 3) := by decide +kernel
theorem dX4_trade_209 : decode cX4_trade 209 = .ok (.iload_n 3, 1) := by decide +kernel
theorem dX4_trade_210 : decode cX4_trade 210 = .ok (.dup2, 1) := by decide +kernel
theorem dX4_trade_211 : decode cX4_trade 211 = .ok (.iaload, 1) := by decide +kernel
theorem dX4_trade_212 : decode cX4_trade 212 = .ok (.iload 4, 2) := by decide +kernel
theorem dX4_trade_214 : decode cX4_trade 214 = .ok (.iadd, 1) := by decide +kernel
theorem dX4_trade_215 : decode cX4_trade 215 = .ok (.iastore, 1) := by decide +kernel
theorem dX4_trade_216 : decode cX4_trade 216 = .ok (.aload 7, 2) := by decide +kernel
theorem dX4_trade_218 : decode cX4_trade 218 = .ok (.getfield 114, 3) := by decide +kernel
theorem dX4_trade_221 : decode cX4_trade 221 = .ok (.iload_n 3, 1) := by decide +kernel
theorem dX4_trade_222 : decode cX4_trade 222 = .ok (.dup2, 1) := by decide +kernel
theorem dX4_trade_223 : decode cX4_trade 223 = .ok (.iaload, 1) := by decide +kernel
theorem dX4_trade_224 : decode cX4_trade 224 = .ok (.iload 4, 2) := by decide +kernel
theorem dX4_trade_226 : decode cX4_trade 226 = .ok (.isub, 1) := by decide +kernel
theorem dX4_trade_227 : decode cX4_trade 227 = .ok (.iastore, 1) := by decide +kernel
theorem dX4_trade_228 : decode cX4_trade 228 = .ok (.aload_n 0, 1) := by decide +kernel
theorem dX4_trade_229 : decode cX4_trade 229 = .ok (.dup, 1) := by decide +kernel
theorem dX4_trade_230 : decode cX4_trade 230 = .ok (.getfield 44, 3) := by decide +kernel
theorem dX4_trade_233 : decode cX4_trade 233 = .ok (.iconst 1, 1) := by decide +kernel
theorem dX4_trade_234 : decode cX4_trade 234 = .ok (.iadd, 1) := by decide +kernel
theorem dX4_trade_235 : decode cX4_trade 235 = .ok (.putfield 44, 3) := by decide +kernel
theorem dX4_trade_238 : decode cX4_trade 238 = .ok (.aload_n 0, 1) := by decide +kernel
theorem dX4_trade_239 : decode cX4_trade 239 = .ok (.getfield 44, 3) := by decide +kernel
theorem dX4_trade_242 : decode cX4_trade 242 = .ok (.ireturn, 1) := by decide +kernel
theorem dX4_mark_0 : decode cX4_mark 0 = .ok (.aload_n 0, 1) := by decide +kernel
theorem dX4_mark_1 : decode cX4_mark 1 = .ok (.iload_n 1, 1) := by decide +kernel
theorem dX4_mark_2 : decode cX4_mark 2 = .ok (.invokevirtual 88, 3) := by decide +kernel
theorem dX4_mark_5 : decode cX4_mark 5 = .ok (.ifCond .eq 19, 3) := by decide +kernel
theorem dX4_mark_8 : decode cX4_mark 8 = .ok (.iload_n 2, 1) := by decide +kernel
theorem dX4_mark_9 : decode cX4_mark 9 = .ok (.i2l, 1) := by decide +kernel
theorem dX4_mark_10 : decode cX4_mark 10 = .ok (.lconst 0, 1) := by decide +kernel
theorem dX4_mark_11 : decode cX4_mark 11 = .ok (.ldc2_w 69, 3) := by decide +kernel
theorem dX4_mark_14 : decode cX4_mark 14 = .ok (.invokestatic 58, 3) := by decide +kernel
theorem dX4_mark_17 : decode cX4_mark 17 = .ok (.ifCond .eq 7, 3) := by decide +kernel
theorem dX4_mark_20 : decode cX4_mark 20 = .ok (.iconst 1, 1) := by decide +kernel
theorem dX4_mark_21 : decode cX4_mark 21 = .ok (.goto 4, 3) := by decide +kernel
theorem dX4_mark_24 : decode cX4_mark 24 = .ok (.iconst 0, 1) := by decide +kernel
theorem dX4_mark_25 : decode cX4_mark 25 = .ok (.invokestatic 62, 3) := by decide +kernel
theorem dX4_mark_28 : decode cX4_mark 28 = .ok (.iload_n 2, 1) := by decide +kernel
theorem dX4_mark_29 : decode cX4_mark 29 = .ok (.aload_n 0, 1) := by decide +kernel
theorem dX4_mark_30 : decode cX4_mark 30 = .ok (.getfield 17, 3) := by decide +kernel
theorem dX4_mark_33 : decode cX4_mark 33 = .ok (.iload_n 1, 1) := by decide +kernel
theorem dX4_mark_34 : decode cX4_mark 34 = .ok (.aaload, 1) := by decide +kernel
theorem dX4_mark_35 : decode cX4_mark 35 = .ok (.getfield 71, 3) := by decide +kernel
theorem dX4_mark_38 : decode cX4_mark 38 = .ok (.isub, 1) := by decide +kernel
theorem dX4_mark_39 : decode cX4_mark 39 = .ok (.i2l, 1) := by decide +kernel
theorem dX4_mark_40 : decode cX4_mark 40 = .ok (.lstore_n 3, 1) := by decide +kernel
theorem dX4_mark_41 : decode cX4_mark 41 = .ok (.iconst 0, 1) := by decide +kernel
theorem dX4_mark_42 : decode cX4_mark 42 = .ok (.istore 5, 2) := by decide +kernel
theorem dX4_mark_44 : decode cX4_mark 44 = .ok (.iload 5, 2) := by decide +kernel
theorem dX4_mark_46 : decode cX4_mark 46 = .ok (.aload_n 0, 1) := by decide +kernel
theorem dX4_mark_47 : decode cX4_mark 47 = .ok (.getfield 37, 3) := by decide +kernel
theorem dX4_mark_50 : decode cX4_mark 50 = .ok (.if_icmp .ge 43, 3) := by decide +kernel
theorem dX4_mark_53 : decode cX4_mark 53 = .ok (.aload_n 0, 1) := by decide +kernel
theorem dX4_mark_54 : decode cX4_mark 54 = .ok (.getfield 11, 3) := by decide +kernel
theorem dX4_mark_57 : decode cX4_mark 57 = .ok (.iload 5, 2) := by decide +kernel
theorem dX4_mark_59 : decode cX4_mark 59 = .ok (.aaload, 1) := by decide +kernel
theorem dX4_mark_60 : decode cX4_mark 60 = .ok (.getfield 105, 3) := by decide +kernel
theorem dX4_mark_63 : decode cX4_mark 63 = .ok (.lload_n 3, 1) := by decide +kernel
theorem dX4_mark_64 : decode cX4_mark 64 = .ok (.aload_n 0, 1) := by decide +kernel
theorem dX4_mark_65 : decode cX4_mark 65 = .ok (.getfield 11, 3) := by decide +kernel
theorem dX4_mark_68 : decode cX4_mark 68 = .ok (.iload 5, 2) := by decide +kernel
theorem dX4_mark_70 : decode cX4_mark 70 = .ok (.aaload, 1) := by decide +kernel
theorem dX4_mark_71 : decode cX4_mark 71 = .ok (.getfield 114, 3) := by decide +kernel
theorem dX4_mark_74 : decode cX4_mark 74 = .ok (.iload_n 1, 1) := by decide +kernel
theorem dX4_mark_75 : decode cX4_mark 75 = .ok (.iaload, 1) := by decide +kernel
theorem dX4_mark_76 : decode cX4_mark 76 = .ok (.i2l, 1) := by decide +kernel
theorem dX4_mark_77 : decode cX4_mark 77 = .ok (.lmul, 1) := by decide +kernel
theorem dX4_mark_78 : decode cX4_mark 78 = .ok (.ladd, 1) := by decide +kernel
theorem dX4_mark_79 : decode cX4_mark 79 = .ok (.invokestatic 80, 3) := by decide +kernel
theorem dX4_mark_82 : decode cX4_mark 82 = .ok (.ifCond .eq 5, 3) := by decide +kernel
theorem dX4_mark_85 : decode cX4_mark 85 = .ok (.iconst (-1), 1) := by decide +kernel
theorem dX4_mark_86 : decode cX4_mark 86 = .ok (.ireturn, 1) := by decide +kernel
theorem dX4_mark_87 : decode cX4_mark 87 = .ok (.iinc 5 1, 3) := by decide +kernel
theorem dX4_mark_90 : decode cX4_mark 90 = .ok (.goto (-46), 3) := by decide +kernel
theorem dX4_mark_93 : decode cX4_mark 93 = .ok (.iconst 0, 1) := by decide +kernel
theorem dX4_mark_94 : decode cX4_mark 94 = .ok (.istore 5, 2) := by decide +kernel
theorem dX4_mark_96 : decode cX4_mark 96 = .ok (.iload 5, 2) := by decide +kernel
theorem dX4_mark_98 : decode cX4_mark 98 = .ok (.aload_n 0, 1) := by decide +kernel
theorem dX4_mark_99 : decode cX4_mark 99 = .ok (.getfield 37, 3) := by decide +kernel
theorem dX4_mark_102 : decode cX4_mark 102 = .ok (.if_icmp .ge 39, 3) := by decide +kernel
theorem dX4_mark_105 : decode cX4_mark 105 = .ok (.aload_n 0, 1) := by decide +kernel
theorem dX4_mark_106 : decode cX4_mark 106 = .ok (.getfield 11, 3) := by decide +kernel
theorem dX4_mark_109 : decode cX4_mark 109 = .ok (.iload 5, 2) := by decide +kernel
theorem dX4_mark_111 : decode cX4_mark 111 = .ok (.aaload, 1) := by decide +kernel
theorem dX4_mark_112 : decode cX4_mark 112 = .ok (.dup, 1) := by decide +kernel
theorem dX4_mark_113 : decode cX4_mark 113 = .ok (.getfield 105, 3) := by decide +kernel
theorem dX4_mark_116 : decode cX4_mark 116 = .ok (.lload_n 3, 1) := by decide +kernel
theorem dX4_mark_117 : decode cX4_mark 117 = .ok (.aload_n 0, 1) := by decide +kernel
theorem dX4_mark_118 : decode cX4_mark 118 = .ok (.getfield 11, 3) := by decide +kernel
theorem dX4_mark_121 : decode cX4_mark 121 = .ok (.iload 5, 2) := by decide +kernel
theorem dX4_mark_123 : decode cX4_mark 123 = .ok (.aaload, 1) := by decide +kernel
theorem dX4_mark_124 : decode cX4_mark 124 = .ok (.getfield 114, 3) := by decide +kernel
theorem dX4_mark_127 : decode cX4_mark 127 = .ok (.iload_n 1, 1) := by decide +kernel
theorem dX4_mark_128 : decode cX4_mark 128 = .ok (.iaload, 1) := by decide +kernel
theorem dX4_mark_129 : decode cX4_mark 129 = .ok (.i2l, 1) := by decide +kernel
theorem dX4_mark_130 : decode cX4_mark 130 = .ok (.lmul, 1) := by decide +kernel
theorem dX4_mark_131 : decode cX4_mark 131 = .ok (.ladd, 1) := by decide +kernel
theorem dX4_mark_132 : decode cX4_mark 132 = .ok (.putfield 105, 3) := by decide +kernel
theorem dX4_mark_135 : decode cX4_mark 135 = .ok (.iinc 5 1, 3) := by decide +kernel
theorem dX4_mark_138 : decode cX4_mark 138 = .ok (.goto (-42), 3) := by decide +kernel
theorem dX4_mark_141 : decode cX4_mark 141 = .ok (.aload_n 0, 1) := by decide +kernel
theorem dX4_mark_142 : decode cX4_mark 142 = .ok (.getfield 17, 3) := by decide +kernel
theorem dX4_mark_145 : decode cX4_mark 145 = .ok (.iload_n 1, 1) := by decide +kernel
theorem dX4_mark_146 : decode cX4_mark 146 = .ok (.aaload, 1) := by decide +kernel
theorem dX4_mark_147 : decode cX4_mark 147 = .ok (.iload_n 2, 1) := by decide +kernel
theorem dX4_mark_148 : decode cX4_mark 148 = .ok (.putfield 71, 3) := by decide +kernel
theorem dX4_mark_151 : decode cX4_mark 151 = .ok (.aload_n 0, 1) := by decide +kernel
theorem dX4_mark_152 : decode cX4_mark 152 = .ok (.invokevirtual 120, 3) := by decide +kernel
theorem dX4_mark_155 : decode cX4_mark 155 = .ok (.ireturn, 1) := by decide +kernel
theorem dX4_margin_0 : decode cX4_margin 0 = .ok (.aload_n 0, 1) := by decide +kernel
theorem dX4_margin_1 : decode cX4_margin 1 = .ok (.iload_n 1, 1) := by decide +kernel
theorem dX4_margin_2 : decode cX4_margin 2 = .ok (.invokevirtual 94, 3) := by decide +kernel
theorem dX4_margin_5 : decode cX4_margin 5 = .ok (.invokestatic 62, 3) := by decide +kernel
theorem dX4_margin_8 : decode cX4_margin 8 = .ok (.aload_n 0, 1) := by decide +kernel
theorem dX4_margin_9 : decode cX4_margin 9 = .ok (.aload_n 0, 1) := by decide +kernel
theorem dX4_margin_10 : decode cX4_margin 10 = .ok (.getfield 11, 3) := by decide +kernel
theorem dX4_margin_13 : decode cX4_margin 13 = .ok (.iload_n 1, 1) := by decide +kernel
theorem dX4_margin_14 : decode cX4_margin 14 = .ok (.aaload, 1) := by decide +kernel
theorem dX4_margin_15 : decode cX4_margin 15 = .ok (.invokevirtual 108, 3) := by decide +kernel
theorem dX4_margin_18 : decode cX4_margin 18 = .ok (.lreturn, 1) := by decide +kernel
theorem dX4_called_0 : decode cX4_called 0 = .ok (.aload_n 0, 1) := by decide +kernel
theorem dX4_called_1 : decode cX4_called 1 = .ok (.iload_n 1, 1) := by decide +kernel
theorem dX4_called_2 : decode cX4_called 2 = .ok (.invokevirtual 94, 3) := by decide +kernel
theorem dX4_called_5 : decode cX4_called 5 = .ok (.invokestatic 62, 3) := by decide +kernel
theorem dX4_called_8 : decode cX4_called 8 = .ok (.aload_n 0, 1) := by decide +kernel
theorem dX4_called_9 : decode cX4_called 9 = .ok (.aload_n 0, 1) := by decide +kernel
theorem dX4_called_10 : decode cX4_called 10 = .ok (.getfield 11, 3) := by decide +kernel
theorem dX4_called_13 : decode cX4_called 13 = .ok (.iload_n 1, 1) := by decide +kernel
theorem dX4_called_14 : decode cX4_called 14 = .ok (.aaload, 1) := by decide +kernel
theorem dX4_called_15 : decode cX4_called 15 = .ok (.invokevirtual 124, 3) := by decide +kernel
theorem dX4_called_18 : decode cX4_called 18 = .ok (.lreturn, 1) := by decide +kernel
theorem dX4_declare_0 : decode cX4_declare 0 = .ok (.iconst 0, 1) := by decide +kernel
theorem dX4_declare_1 : decode cX4_declare 1 = .ok (.istore_n 1, 1) := by decide +kernel
theorem dX4_declare_2 : decode cX4_declare 2 = .ok (.iconst 0, 1) := by decide +kernel
theorem dX4_declare_3 : decode cX4_declare 3 = .ok (.istore_n 2, 1) := by decide +kernel
theorem dX4_declare_4 : decode cX4_declare 4 = .ok (.iload_n 2, 1) := by decide +kernel
theorem dX4_declare_5 : decode cX4_declare 5 = .ok (.aload_n 0, 1) := by decide +kernel
theorem dX4_declare_6 : decode cX4_declare 6 = .ok (.getfield 37, 3) := by decide +kernel
theorem dX4_declare_9 : decode cX4_declare 9 = .ok (.if_icmp .ge 37, 3) := by decide +kernel
theorem dX4_declare_12 : decode cX4_declare 12 = .ok (.aload_n 0, 1) := by decide +kernel
theorem dX4_declare_13 : decode cX4_declare 13 = .ok (.aload_n 0, 1) := by decide +kernel
theorem dX4_declare_14 : decode cX4_declare 14 = .ok (.getfield 11, 3) := by decide +kernel
theorem dX4_declare_17 : decode cX4_declare 17 = .ok (.iload_n 2, 1) := by decide +kernel
theorem dX4_declare_18 : decode cX4_declare 18 = .ok (.aaload, 1) := by decide +kernel
theorem dX4_declare_19 : decode cX4_declare 19 = .ok (.invokevirtual 124, 3) := by decide +kernel
theorem dX4_declare_22 : decode cX4_declare 22 = .ok (.lconst 0, 1) := by decide +kernel
theorem dX4_declare_23 : decode cX4_declare 23 = .ok (.lcmp, 1) := by decide +kernel
theorem dX4_declare_24 : decode cX4_declare 24 = .ok (.ifCond .le 16, 3) := by decide +kernel
theorem dX4_declare_27 : decode cX4_declare 27 = .ok (.aload_n 0, 1) := by decide +kernel
theorem dX4_declare_28 : decode cX4_declare 28 = .ok (.getfield 11, 3) := by decide +kernel
theorem dX4_declare_31 : decode cX4_declare 31 = .ok (.iload_n 2, 1) := by decide +kernel
theorem dX4_declare_32 : decode cX4_declare 32 = .ok (.aaload, 1) := by decide +kernel
theorem dX4_declare_33 : decode cX4_declare 33 = .ok (.iconst 1, 1) := by decide +kernel
theorem dX4_declare_34 : decode cX4_declare 34 = .ok (.putfield 127, 3) := by decide +kernel
theorem dX4_declare_37 : decode cX4_declare 37 = .ok (.iinc 1 1, 3) := by decide +kernel
theorem dX4_declare_40 : decode cX4_declare 40 = .ok (.iinc 2 1, 3) := by decide +kernel
theorem dX4_declare_43 : decode cX4_declare 43 = .ok (.goto (-39), 3) := by decide +kernel
theorem dX4_declare_46 : decode cX4_declare 46 = .ok (.iload_n 1, 1) := by decide +kernel
theorem dX4_declare_47 : decode cX4_declare 47 = .ok (.ireturn, 1) := by decide +kernel
theorem dX4_closeOut_0 : decode cX4_closeOut 0 = .ok (.aload_n 0, 1) := by decide +kernel
theorem dX4_closeOut_1 : decode cX4_closeOut 1 = .ok (.iload_n 1, 1) := by decide +kernel
theorem dX4_closeOut_2 : decode cX4_closeOut 2 = .ok (.invokevirtual 94, 3) := by decide +kernel
theorem dX4_closeOut_5 : decode cX4_closeOut 5 = .ok (.invokestatic 62, 3) := by decide +kernel
theorem dX4_closeOut_8 : decode cX4_closeOut 8 = .ok (.aload_n 0, 1) := by decide +kernel
theorem dX4_closeOut_9 : decode cX4_closeOut 9 = .ok (.getfield 11, 3) := by decide +kernel
theorem dX4_closeOut_12 : decode cX4_closeOut 12 = .ok (.iload_n 1, 1) := by decide +kernel
theorem dX4_closeOut_13 : decode cX4_closeOut 13 = .ok (.aaload, 1) := by decide +kernel
theorem dX4_closeOut_14 : decode cX4_closeOut 14 = .ok (.iconst 1, 1) := by decide +kernel
theorem dX4_closeOut_15 : decode cX4_closeOut 15 = .ok (.invokestatic 101, 3) := by decide +kernel
theorem dX4_closeOut_18 : decode cX4_closeOut 18 = .ok (.aload_n 0, 1) := by decide +kernel
theorem dX4_closeOut_19 : decode cX4_closeOut 19 = .ok (.invokevirtual 130, 3) := by decide +kernel
theorem dX4_closeOut_22 : decode cX4_closeOut 22 = .ok (.aload_n 0, 1) := by decide +kernel
theorem dX4_closeOut_23 : decode cX4_closeOut 23 = .ok (.iload_n 1, 1) := by decide +kernel
theorem dX4_closeOut_24 : decode cX4_closeOut 24 = .ok (.invokevirtual 133, 3) := by decide +kernel
theorem dX4_closeOut_27 : decode cX4_closeOut 27 = .ok (.ifCond .ne 7, 3) := by decide +kernel
theorem dX4_closeOut_30 : decode cX4_closeOut 30 = .ok (.ldc2_w 84, 3) := by decide +kernel
theorem dX4_closeOut_33 : decode cX4_closeOut 33 = .ok (.lreturn, 1) := by decide +kernel
theorem dX4_closeOut_34 : decode cX4_closeOut 34 = .ok (.aload_n 0, 1) := by decide +kernel
theorem dX4_closeOut_35 : decode cX4_closeOut 35 = .ok (.iload_n 1, 1) := by decide +kernel
theorem dX4_closeOut_36 : decode cX4_closeOut 36 = .ok (.invokevirtual 136, 3) := by decide +kernel
theorem dX4_closeOut_39 : decode cX4_closeOut 39 = .ok (.aload_n 0, 1) := by decide +kernel
theorem dX4_closeOut_40 : decode cX4_closeOut 40 = .ok (.getfield 51, 3) := by decide +kernel
theorem dX4_closeOut_43 : decode cX4_closeOut 43 = .ok (.aload_n 0, 1) := by decide +kernel
theorem dX4_closeOut_44 : decode cX4_closeOut 44 = .ok (.getfield 33, 3) := by decide +kernel
theorem dX4_closeOut_47 : decode cX4_closeOut 47 = .ok (.getfield 140, 3) := by decide +kernel
theorem dX4_closeOut_50 : decode cX4_closeOut 50 = .ok (.iconst 4, 1) := by decide +kernel
theorem dX4_closeOut_51 : decode cX4_closeOut 51 = .ok (.laload, 1) := by decide +kernel
theorem dX4_closeOut_52 : decode cX4_closeOut 52 = .ok (.ladd, 1) := by decide +kernel
theorem dX4_closeOut_53 : decode cX4_closeOut 53 = .ok (.invokestatic 80, 3) := by decide +kernel
theorem dX4_closeOut_56 : decode cX4_closeOut 56 = .ok (.ifCond .eq 7, 3) := by decide +kernel
theorem dX4_closeOut_59 : decode cX4_closeOut 59 = .ok (.ldc2_w 84, 3) := by decide +kernel
theorem dX4_closeOut_62 : decode cX4_closeOut 62 = .ok (.lreturn, 1) := by decide +kernel
theorem dX4_closeOut_63 : decode cX4_closeOut 63 = .ok (.aload_n 0, 1) := by decide +kernel
theorem dX4_closeOut_64 : decode cX4_closeOut 64 = .ok (.iload_n 1, 1) := by decide +kernel
theorem dX4_closeOut_65 : decode cX4_closeOut 65 = .ok (.invokevirtual 141, 3) := by decide +kernel
theorem dX4_closeOut_68 : decode cX4_closeOut 68 = .ok (.aload_n 0, 1) := by decide +kernel
theorem dX4_closeOut_69 : decode cX4_closeOut 69 = .ok (.getfield 26, 3) := by decide +kernel
theorem dX4_closeOut_72 : decode cX4_closeOut 72 = .ok (.iconst 4, 1) := by decide +kernel
theorem dX4_closeOut_73 : decode cX4_closeOut 73 = .ok (.laload, 1) := by decide +kernel
theorem dX4_closeOut_74 : decode cX4_closeOut 74 = .ok (.lreturn, 1) := by decide +kernel
theorem dX4_told_0 : decode cX4_told 0 = .ok (.aload_n 0, 1) := by decide +kernel
theorem dX4_told_1 : decode cX4_told 1 = .ok (.iload_n 1, 1) := by decide +kernel
theorem dX4_told_2 : decode cX4_told 2 = .ok (.invokevirtual 94, 3) := by decide +kernel
theorem dX4_told_5 : decode cX4_told 5 = .ok (.ifCond .eq 19, 3) := by decide +kernel
theorem dX4_told_8 : decode cX4_told 8 = .ok (.iload_n 2, 1) := by decide +kernel
theorem dX4_told_9 : decode cX4_told 9 = .ok (.i2l, 1) := by decide +kernel
theorem dX4_told_10 : decode cX4_told 10 = .ok (.lconst 0, 1) := by decide +kernel
theorem dX4_told_11 : decode cX4_told 11 = .ok (.ldc2_w 144, 3) := by decide +kernel
theorem dX4_told_14 : decode cX4_told 14 = .ok (.invokestatic 58, 3) := by decide +kernel
theorem dX4_told_17 : decode cX4_told 17 = .ok (.ifCond .eq 7, 3) := by decide +kernel
theorem dX4_told_20 : decode cX4_told 20 = .ok (.iconst 1, 1) := by decide +kernel
theorem dX4_told_21 : decode cX4_told 21 = .ok (.goto 4, 3) := by decide +kernel
theorem dX4_told_24 : decode cX4_told 24 = .ok (.iconst 0, 1) := by decide +kernel
theorem dX4_told_25 : decode cX4_told 25 = .ok (.invokestatic 62, 3) := by decide +kernel
theorem dX4_told_28 : decode cX4_told 28 = .ok (.iload_n 2, 1) := by decide +kernel
theorem dX4_told_29 : decode cX4_told 29 = .ok (.lookupswitch 48 #[(0, 27), (1, 38)], 27) := by decide +kernel
theorem dX4_told_56 : decode cX4_told 56 = .ok (.aload_n 0, 1) := by decide +kernel
theorem dX4_told_57 : decode cX4_told 57 = .ok (.getfield 11, 3) := by decide +kernel
theorem dX4_told_60 : decode cX4_told 60 = .ok (.iload_n 1, 1) := by decide +kernel
theorem dX4_told_61 : decode cX4_told 61 = .ok (.aaload, 1) := by decide +kernel
theorem dX4_told_62 : decode cX4_told 62 = .ok (.getfield 127, 3) := by decide +kernel
theorem dX4_told_65 : decode cX4_told 65 = .ok (.i2l, 1) := by decide +kernel
theorem dX4_told_66 : decode cX4_told 66 = .ok (.lreturn, 1) := by decide +kernel
theorem dX4_told_67 : decode cX4_told 67 = .ok (.aload_n 0, 1) := by decide +kernel
theorem dX4_told_68 : decode cX4_told 68 = .ok (.getfield 11, 3) := by decide +kernel
theorem dX4_told_71 : decode cX4_told 71 = .ok (.iload_n 1, 1) := by decide +kernel
theorem dX4_told_72 : decode cX4_told 72 = .ok (.aaload, 1) := by decide +kernel
theorem dX4_told_73 : decode cX4_told 73 = .ok (.getfield 105, 3) := by decide +kernel
theorem dX4_told_76 : decode cX4_told 76 = .ok (.lreturn, 1) := by decide +kernel
theorem dX4_told_77 : decode cX4_told 77 = .ok (.aload_n 0, 1) := by decide +kernel
theorem dX4_told_78 : decode cX4_told 78 = .ok (.getfield 11, 3) := by decide +kernel
theorem dX4_told_81 : decode cX4_told 81 = .ok (.iload_n 1, 1) := by decide +kernel
theorem dX4_told_82 : decode cX4_told 82 = .ok (.aaload, 1) := by decide +kernel
theorem dX4_told_83 : decode cX4_told 83 = .ok (.getfield 66, 3) := by decide +kernel
theorem dX4_told_86 : decode cX4_told 86 = .ok (.lreturn, 1) := by decide +kernel
theorem dX4_position_0 : decode cX4_position 0 = .ok (.aload_n 0, 1) := by decide +kernel
theorem dX4_position_1 : decode cX4_position 1 = .ok (.iload_n 1, 1) := by decide +kernel
theorem dX4_position_2 : decode cX4_position 2 = .ok (.invokevirtual 94, 3) := by decide +kernel
theorem dX4_position_5 : decode cX4_position 5 = .ok (.ifCond .eq 15, 3) := by decide +kernel
theorem dX4_position_8 : decode cX4_position 8 = .ok (.aload_n 0, 1) := by decide +kernel
theorem dX4_position_9 : decode cX4_position 9 = .ok (.iload_n 2, 1) := by decide +kernel
theorem dX4_position_10 : decode cX4_position 10 = .ok (.invokevirtual 88, 3) := by decide +kernel
theorem dX4_position_13 : decode cX4_position 13 = .ok (.ifCond .eq 7, 3) := by decide +kernel
theorem dX4_position_16 : decode cX4_position 16 = .ok (.iconst 1, 1) := by decide +kernel
theorem dX4_position_17 : decode cX4_position 17 = .ok (.goto 4, 3) := by decide +kernel
theorem dX4_position_20 : decode cX4_position 20 = .ok (.iconst 0, 1) := by decide +kernel
theorem dX4_position_21 : decode cX4_position 21 = .ok (.invokestatic 62, 3) := by decide +kernel
theorem dX4_position_24 : decode cX4_position 24 = .ok (.aload_n 0, 1) := by decide +kernel
theorem dX4_position_25 : decode cX4_position 25 = .ok (.getfield 11, 3) := by decide +kernel
theorem dX4_position_28 : decode cX4_position 28 = .ok (.iload_n 1, 1) := by decide +kernel
theorem dX4_position_29 : decode cX4_position 29 = .ok (.aaload, 1) := by decide +kernel
theorem dX4_position_30 : decode cX4_position 30 = .ok (.getfield 114, 3) := by decide +kernel
theorem dX4_position_33 : decode cX4_position 33 = .ok (.iload_n 2, 1) := by decide +kernel
theorem dX4_position_34 : decode cX4_position 34 = .ok (.iaload, 1) := by decide +kernel
theorem dX4_position_35 : decode cX4_position 35 = .ok (.ireturn, 1) := by decide +kernel
theorem dX4_bore_0 : decode cX4_bore 0 = .ok (.iload_n 1, 1) := by decide +kernel
theorem dX4_bore_1 : decode cX4_bore 1 = .ok (.i2l, 1) := by decide +kernel
theorem dX4_bore_2 : decode cX4_bore 2 = .ok (.lconst 0, 1) := by decide +kernel
theorem dX4_bore_3 : decode cX4_bore 3 = .ok (.ldc2_w 146, 3) := by decide +kernel
theorem dX4_bore_6 : decode cX4_bore 6 = .ok (.invokestatic 58, 3) := by decide +kernel
theorem dX4_bore_9 : decode cX4_bore 9 = .ok (.invokestatic 62, 3) := by decide +kernel
theorem dX4_bore_12 : decode cX4_bore 12 = .ok (.aload_n 0, 1) := by decide +kernel
theorem dX4_bore_13 : decode cX4_bore 13 = .ok (.getfield 26, 3) := by decide +kernel
theorem dX4_bore_16 : decode cX4_bore 16 = .ok (.iload_n 1, 1) := by decide +kernel
theorem dX4_bore_17 : decode cX4_bore 17 = .ok (.laload, 1) := by decide +kernel
theorem dX4_bore_18 : decode cX4_bore 18 = .ok (.lreturn, 1) := by decide +kernel
theorem dX4_all_0 : decode cX4_all 0 = .ok (.iload_n 1, 1) := by decide +kernel
theorem dX4_all_1 : decode cX4_all 1 = .ok (.i2l, 1) := by decide +kernel
theorem dX4_all_2 : decode cX4_all 2 = .ok (.lconst 0, 1) := by decide +kernel
theorem dX4_all_3 : decode cX4_all 3 = .ok (.ldc2_w 148, 3) := by decide +kernel
theorem dX4_all_6 : decode cX4_all 6 = .ok (.invokestatic 58, 3) := by decide +kernel
theorem dX4_all_9 : decode cX4_all 9 = .ok (.invokestatic 62, 3) := by decide +kernel
theorem dX4_all_12 : decode cX4_all 12 = .ok (.iload_n 1, 1) := by decide +kernel
theorem dX4_all_13 : decode cX4_all 13 = .ok (.tableswitch 61 0 4 #[35, 40, 45, 50, 55], 35) := by decide +kernel
theorem dX4_all_48 : decode cX4_all 48 = .ok (.aload_n 0, 1) := by decide +kernel
theorem dX4_all_49 : decode cX4_all 49 = .ok (.getfield 47, 3) := by decide +kernel
theorem dX4_all_52 : decode cX4_all 52 = .ok (.lreturn, 1) := by decide +kernel
theorem dX4_all_53 : decode cX4_all 53 = .ok (.aload_n 0, 1) := by decide +kernel
theorem dX4_all_54 : decode cX4_all 54 = .ok (.getfield 51, 3) := by decide +kernel
theorem dX4_all_57 : decode cX4_all 57 = .ok (.lreturn, 1) := by decide +kernel
theorem dX4_all_58 : decode cX4_all 58 = .ok (.aload_n 0, 1) := by decide +kernel
theorem dX4_all_59 : decode cX4_all 59 = .ok (.invokevirtual 150, 3) := by decide +kernel
theorem dX4_all_62 : decode cX4_all 62 = .ok (.lreturn, 1) := by decide +kernel
theorem dX4_all_63 : decode cX4_all 63 = .ok (.aload_n 0, 1) := by decide +kernel
theorem dX4_all_64 : decode cX4_all 64 = .ok (.invokevirtual 154, 3) := by decide +kernel
theorem dX4_all_67 : decode cX4_all 67 = .ok (.lreturn, 1) := by decide +kernel
theorem dX4_all_68 : decode cX4_all 68 = .ok (.aload_n 0, 1) := by decide +kernel
theorem dX4_all_69 : decode cX4_all 69 = .ok (.getfield 44, 3) := by decide +kernel
theorem dX4_all_72 : decode cX4_all 72 = .ok (.i2l, 1) := by decide +kernel
theorem dX4_all_73 : decode cX4_all 73 = .ok (.lreturn, 1) := by decide +kernel
theorem dX4_all_74 : decode cX4_all 74 = .ok (.aload_n 0, 1) := by decide +kernel
theorem dX4_all_75 : decode cX4_all 75 = .ok (.invokevirtual 157, 3) := by decide +kernel
theorem dX4_all_78 : decode cX4_all 78 = .ok (.lreturn, 1) := by decide +kernel
theorem dX4_need_0 : decode cX4_need 0 = .ok (.iload_n 0, 1) := by decide +kernel
theorem dX4_need_1 : decode cX4_need 1 = .ok (.ifCond .ne 11, 3) := by decide +kernel
theorem dX4_need_4 : decode cX4_need 4 = .ok (.new 160, 3) := by decide +kernel
theorem dX4_need_7 : decode cX4_need 7 = .ok (.dup, 1) := by decide +kernel
theorem dX4_need_8 : decode cX4_need 8 = .ok (.invokespecial 162, 3) := by decide +kernel
theorem dX4_need_11 : decode cX4_need 11 = .ok (.athrow, 1) := by decide +kernel
theorem dX4_need_12 : decode cX4_need 12 = .ok (.return_, 1) := by decide +kernel
theorem dX4_needStanding_0 : decode cX4_needStanding 0 = .ok (.aload_n 0, 1) := by decide +kernel
theorem dX4_needStanding_1 : decode cX4_needStanding 1 = .ok (.getfield 127, 3) := by decide +kernel
theorem dX4_needStanding_4 : decode cX4_needStanding 4 = .ok (.iload_n 1, 1) := by decide +kernel
theorem dX4_needStanding_5 : decode cX4_needStanding 5 = .ok (.if_icmp .eq 11, 3) := by decide +kernel
theorem dX4_needStanding_8 : decode cX4_needStanding 8 = .ok (.new 163, 3) := by decide +kernel
theorem dX4_needStanding_11 : decode cX4_needStanding 11 = .ok (.dup, 1) := by decide +kernel
theorem dX4_needStanding_12 : decode cX4_needStanding 12 = .ok (.invokespecial 165, 3) := by decide +kernel
theorem dX4_needStanding_15 : decode cX4_needStanding 15 = .ok (.athrow, 1) := by decide +kernel
theorem dX4_needStanding_16 : decode cX4_needStanding 16 = .ok (.return_, 1) := by decide +kernel
theorem dX4_within_0 : decode cX4_within 0 = .ok (.lload_n 0, 1) := by decide +kernel
theorem dX4_within_1 : decode cX4_within 1 = .ok (.lload_n 2, 1) := by decide +kernel
theorem dX4_within_2 : decode cX4_within 2 = .ok (.lcmp, 1) := by decide +kernel
theorem dX4_within_3 : decode cX4_within 3 = .ok (.ifCond .lt 14, 3) := by decide +kernel
theorem dX4_within_6 : decode cX4_within 6 = .ok (.lload_n 0, 1) := by decide +kernel
theorem dX4_within_7 : decode cX4_within 7 = .ok (.lload 4, 2) := by decide +kernel
theorem dX4_within_9 : decode cX4_within 9 = .ok (.lcmp, 1) := by decide +kernel
theorem dX4_within_10 : decode cX4_within 10 = .ok (.ifCond .gt 7, 3) := by decide +kernel
theorem dX4_within_13 : decode cX4_within 13 = .ok (.iconst 1, 1) := by decide +kernel
theorem dX4_within_14 : decode cX4_within 14 = .ok (.goto 4, 3) := by decide +kernel
theorem dX4_within_17 : decode cX4_within 17 = .ok (.iconst 0, 1) := by decide +kernel
theorem dX4_within_18 : decode cX4_within 18 = .ok (.ireturn, 1) := by decide +kernel
theorem dX4_isTooMuch_0 : decode cX4_isTooMuch 0 = .ok (.lload_n 0, 1) := by decide +kernel
theorem dX4_isTooMuch_1 : decode cX4_isTooMuch 1 = .ok (.ldc2_w 166, 3) := by decide +kernel
theorem dX4_isTooMuch_4 : decode cX4_isTooMuch 4 = .ok (.ldc2_w 168, 3) := by decide +kernel
theorem dX4_isTooMuch_7 : decode cX4_isTooMuch 7 = .ok (.invokestatic 58, 3) := by decide +kernel
theorem dX4_isTooMuch_10 : decode cX4_isTooMuch 10 = .ok (.ifCond .ne 7, 3) := by decide +kernel
theorem dX4_isTooMuch_13 : decode cX4_isTooMuch 13 = .ok (.iconst 1, 1) := by decide +kernel
theorem dX4_isTooMuch_14 : decode cX4_isTooMuch 14 = .ok (.goto 4, 3) := by decide +kernel
theorem dX4_isTooMuch_17 : decode cX4_isTooMuch 17 = .ok (.iconst 0, 1) := by decide +kernel
theorem dX4_isTooMuch_18 : decode cX4_isTooMuch 18 = .ok (.ireturn, 1) := by decide +kernel
theorem dX4_isTooMany_0 : decode cX4_isTooMany 0 = .ok (.iload_n 0, 1) := by decide +kernel
theorem dX4_isTooMany_1 : decode cX4_isTooMany 1 = .ok (.i2l, 1) := by decide +kernel
theorem dX4_isTooMany_2 : decode cX4_isTooMany 2 = .ok (.ldc2_w 92, 3) := by decide +kernel
theorem dX4_isTooMany_5 : decode cX4_isTooMany 5 = .ok (.ldc2_w 69, 3) := by decide +kernel
theorem dX4_isTooMany_8 : decode cX4_isTooMany 8 = .ok (.invokestatic 58, 3) := by decide +kernel
theorem dX4_isTooMany_11 : decode cX4_isTooMany 11 = .ok (.ifCond .ne 7, 3) := by decide +kernel
theorem dX4_isTooMany_14 : decode cX4_isTooMany 14 = .ok (.iconst 1, 1) := by decide +kernel
theorem dX4_isTooMany_15 : decode cX4_isTooMany 15 = .ok (.goto 4, 3) := by decide +kernel
theorem dX4_isTooMany_18 : decode cX4_isTooMany 18 = .ok (.iconst 0, 1) := by decide +kernel
theorem dX4_isTooMany_19 : decode cX4_isTooMany 19 = .ok (.ireturn, 1) := by decide +kernel
theorem dX4_isMember_0 : decode cX4_isMember 0 = .ok (.iload_n 1, 1) := by decide +kernel
theorem dX4_isMember_1 : decode cX4_isMember 1 = .ok (.i2l, 1) := by decide +kernel
theorem dX4_isMember_2 : decode cX4_isMember 2 = .ok (.lconst 0, 1) := by decide +kernel
theorem dX4_isMember_3 : decode cX4_isMember 3 = .ok (.aload_n 0, 1) := by decide +kernel
theorem dX4_isMember_4 : decode cX4_isMember 4 = .ok (.getfield 37, 3) := by decide +kernel
theorem dX4_isMember_7 : decode cX4_isMember 7 = .ok (.iconst 1, 1) := by decide +kernel
theorem dX4_isMember_8 : decode cX4_isMember 8 = .ok (.isub, 1) := by decide +kernel
theorem dX4_isMember_9 : decode cX4_isMember 9 = .ok (.i2l, 1) := by decide +kernel
theorem dX4_isMember_10 : decode cX4_isMember 10 = .ok (.invokestatic 58, 3) := by decide +kernel
theorem dX4_isMember_13 : decode cX4_isMember 13 = .ok (.ireturn, 1) := by decide +kernel
theorem dX4_isInstrument_0 : decode cX4_isInstrument 0 = .ok (.iload_n 1, 1) := by decide +kernel
theorem dX4_isInstrument_1 : decode cX4_isInstrument 1 = .ok (.i2l, 1) := by decide +kernel
theorem dX4_isInstrument_2 : decode cX4_isInstrument 2 = .ok (.lconst 0, 1) := by decide +kernel
theorem dX4_isInstrument_3 : decode cX4_isInstrument 3 = .ok (.aload_n 0, 1) := by decide +kernel
theorem dX4_isInstrument_4 : decode cX4_isInstrument 4 = .ok (.getfield 41, 3) := by decide +kernel
theorem dX4_isInstrument_7 : decode cX4_isInstrument 7 = .ok (.iconst 1, 1) := by decide +kernel
theorem dX4_isInstrument_8 : decode cX4_isInstrument 8 = .ok (.isub, 1) := by decide +kernel
theorem dX4_isInstrument_9 : decode cX4_isInstrument 9 = .ok (.i2l, 1) := by decide +kernel
theorem dX4_isInstrument_10 : decode cX4_isInstrument 10 = .ok (.invokestatic 58, 3) := by decide +kernel
theorem dX4_isInstrument_13 : decode cX4_isInstrument 13 = .ok (.ireturn, 1) := by decide +kernel
theorem dX4_countLiveBelowZero_0 : decode cX4_countLiveBelowZero 0 = .ok (.iconst 0, 1) := by decide +kernel
theorem dX4_countLiveBelowZero_1 : decode cX4_countLiveBelowZero 1 = .ok (.istore_n 1, 1) := by decide +kernel
theorem dX4_countLiveBelowZero_2 : decode cX4_countLiveBelowZero 2 = .ok (.iconst 0, 1) := by decide +kernel
theorem dX4_countLiveBelowZero_3 : decode cX4_countLiveBelowZero 3 = .ok (.istore_n 2, 1) := by decide +kernel
theorem dX4_countLiveBelowZero_4 : decode cX4_countLiveBelowZero 4 = .ok (.iload_n 2, 1) := by decide +kernel
theorem dX4_countLiveBelowZero_5 : decode cX4_countLiveBelowZero 5 = .ok (.aload_n 0, 1) := by decide +kernel
theorem dX4_countLiveBelowZero_6 : decode cX4_countLiveBelowZero 6 = .ok (.getfield 37, 3) := by decide +kernel
theorem dX4_countLiveBelowZero_9 : decode cX4_countLiveBelowZero 9 = .ok (.if_icmp .ge 38, 3) := by decide +kernel
theorem dX4_countLiveBelowZero_12 : decode cX4_countLiveBelowZero 12 = .ok (.aload_n 0, 1) := by decide +kernel
theorem dX4_countLiveBelowZero_13 : decode cX4_countLiveBelowZero 13 = .ok (.getfield 11, 3) := by decide +kernel
theorem dX4_countLiveBelowZero_16 : decode cX4_countLiveBelowZero 16 = .ok (.iload_n 2, 1) := by decide +kernel
theorem dX4_countLiveBelowZero_17 : decode cX4_countLiveBelowZero 17 = .ok (.aaload, 1) := by decide +kernel
theorem dX4_countLiveBelowZero_18 : decode cX4_countLiveBelowZero 18 = .ok (.getfield 127, 3) := by decide +kernel
theorem dX4_countLiveBelowZero_21 : decode cX4_countLiveBelowZero 21 = .ok (.ifCond .ne 20, 3) := by decide +kernel
theorem dX4_countLiveBelowZero_24 : decode cX4_countLiveBelowZero 24 = .ok (.aload_n 0, 1) := by decide +kernel
theorem dX4_countLiveBelowZero_25 : decode cX4_countLiveBelowZero 25 = .ok (.getfield 11, 3) := by decide +kernel
theorem dX4_countLiveBelowZero_28 : decode cX4_countLiveBelowZero 28 = .ok (.iload_n 2, 1) := by decide +kernel
theorem dX4_countLiveBelowZero_29 : decode cX4_countLiveBelowZero 29 = .ok (.aaload, 1) := by decide +kernel
theorem dX4_countLiveBelowZero_30 : decode cX4_countLiveBelowZero 30 = .ok (.getfield 105, 3) := by decide +kernel
theorem dX4_countLiveBelowZero_33 : decode cX4_countLiveBelowZero 33 = .ok (.lconst 0, 1) := by decide +kernel
theorem dX4_countLiveBelowZero_34 : decode cX4_countLiveBelowZero 34 = .ok (.lcmp, 1) := by decide +kernel
theorem dX4_countLiveBelowZero_35 : decode cX4_countLiveBelowZero 35 = .ok (.ifCond .ge 6, 3) := by decide +kernel
theorem dX4_countLiveBelowZero_38 : decode cX4_countLiveBelowZero 38 = .ok (.iinc 1 1, 3) := by decide +kernel
theorem dX4_countLiveBelowZero_41 : decode cX4_countLiveBelowZero 41 = .ok (.iinc 2 1, 3) := by decide +kernel
theorem dX4_countLiveBelowZero_44 : decode cX4_countLiveBelowZero 44 = .ok (.goto (-40), 3) := by decide +kernel
theorem dX4_countLiveBelowZero_47 : decode cX4_countLiveBelowZero 47 = .ok (.iload_n 1, 1) := by decide +kernel
theorem dX4_countLiveBelowZero_48 : decode cX4_countLiveBelowZero 48 = .ok (.ireturn, 1) := by decide +kernel
theorem dX4_marginOf_0 : decode cX4_marginOf 0 = .ok (.lconst 0, 1) := by decide +kernel
theorem dX4_marginOf_1 : decode cX4_marginOf 1 = .ok (.lstore_n 2, 1) := by decide +kernel
theorem dX4_marginOf_2 : decode cX4_marginOf 2 = .ok (.iconst 0, 1) := by decide +kernel
theorem dX4_marginOf_3 : decode cX4_marginOf 3 = .ok (.istore 4, 2) := by decide +kernel
theorem dX4_marginOf_5 : decode cX4_marginOf 5 = .ok (.iload 4, 2) := by decide +kernel
theorem dX4_marginOf_7 : decode cX4_marginOf 7 = .ok (.bipush 8, 2) := by decide +kernel
theorem dX4_marginOf_9 : decode cX4_marginOf 9 = .ok (.if_icmp .ge 26, 3) := by decide +kernel
theorem dX4_marginOf_12 : decode cX4_marginOf 12 = .ok (.lload_n 2, 1) := by decide +kernel
theorem dX4_marginOf_13 : decode cX4_marginOf 13 = .ok (.aload_n 0, 1) := by decide +kernel
theorem dX4_marginOf_14 : decode cX4_marginOf 14 = .ok (.aload_n 0, 1) := by decide +kernel
theorem dX4_marginOf_15 : decode cX4_marginOf 15 = .ok (.getfield 23, 3) := by decide +kernel
theorem dX4_marginOf_18 : decode cX4_marginOf 18 = .ok (.iload 4, 2) := by decide +kernel
theorem dX4_marginOf_20 : decode cX4_marginOf 20 = .ok (.aaload, 1) := by decide +kernel
theorem dX4_marginOf_21 : decode cX4_marginOf 21 = .ok (.aload_n 1, 1) := by decide +kernel
theorem dX4_marginOf_22 : decode cX4_marginOf 22 = .ok (.invokevirtual 170, 3) := by decide +kernel
theorem dX4_marginOf_25 : decode cX4_marginOf 25 = .ok (.invokestatic 174, 3) := by decide +kernel
theorem dX4_marginOf_28 : decode cX4_marginOf 28 = .ok (.lstore_n 2, 1) := by decide +kernel
theorem dX4_marginOf_29 : decode cX4_marginOf 29 = .ok (.iinc 4 1, 3) := by decide +kernel
theorem dX4_marginOf_32 : decode cX4_marginOf 32 = .ok (.goto (-27), 3) := by decide +kernel
theorem dX4_marginOf_35 : decode cX4_marginOf 35 = .ok (.lload_n 2, 1) := by decide +kernel
theorem dX4_marginOf_36 : decode cX4_marginOf 36 = .ok (.aload_n 0, 1) := by decide +kernel
theorem dX4_marginOf_37 : decode cX4_marginOf 37 = .ok (.aload_n 1, 1) := by decide +kernel
theorem dX4_marginOf_38 : decode cX4_marginOf 38 = .ok (.invokevirtual 180, 3) := by decide +kernel
theorem dX4_marginOf_41 : decode cX4_marginOf 41 = .ok (.ladd, 1) := by decide +kernel
theorem dX4_marginOf_42 : decode cX4_marginOf 42 = .ok (.lreturn, 1) := by decide +kernel
theorem dX4_lossUnder_0 : decode cX4_lossUnder 0 = .ok (.lconst 0, 1) := by decide +kernel
theorem dX4_lossUnder_1 : decode cX4_lossUnder 1 = .ok (.lstore_n 3, 1) := by decide +kernel
theorem dX4_lossUnder_2 : decode cX4_lossUnder 2 = .ok (.iconst 0, 1) := by decide +kernel
theorem dX4_lossUnder_3 : decode cX4_lossUnder 3 = .ok (.istore 5, 2) := by decide +kernel
theorem dX4_lossUnder_5 : decode cX4_lossUnder 5 = .ok (.iload 5, 2) := by decide +kernel
theorem dX4_lossUnder_7 : decode cX4_lossUnder 7 = .ok (.aload_n 0, 1) := by decide +kernel
theorem dX4_lossUnder_8 : decode cX4_lossUnder 8 = .ok (.getfield 41, 3) := by decide +kernel
theorem dX4_lossUnder_11 : decode cX4_lossUnder 11 = .ok (.if_icmp .ge 26, 3) := by decide +kernel
theorem dX4_lossUnder_14 : decode cX4_lossUnder 14 = .ok (.lload_n 3, 1) := by decide +kernel
theorem dX4_lossUnder_15 : decode cX4_lossUnder 15 = .ok (.aload_n 2, 1) := by decide +kernel
theorem dX4_lossUnder_16 : decode cX4_lossUnder 16 = .ok (.getfield 114, 3) := by decide +kernel
theorem dX4_lossUnder_19 : decode cX4_lossUnder 19 = .ok (.iload 5, 2) := by decide +kernel
theorem dX4_lossUnder_21 : decode cX4_lossUnder 21 = .ok (.iaload, 1) := by decide +kernel
theorem dX4_lossUnder_22 : decode cX4_lossUnder 22 = .ok (.i2l, 1) := by decide +kernel
theorem dX4_lossUnder_23 : decode cX4_lossUnder 23 = .ok (.aload_n 1, 1) := by decide +kernel
theorem dX4_lossUnder_24 : decode cX4_lossUnder 24 = .ok (.iload 5, 2) := by decide +kernel
theorem dX4_lossUnder_26 : decode cX4_lossUnder 26 = .ok (.iaload, 1) := by decide +kernel
theorem dX4_lossUnder_27 : decode cX4_lossUnder 27 = .ok (.i2l, 1) := by decide +kernel
theorem dX4_lossUnder_28 : decode cX4_lossUnder 28 = .ok (.lmul, 1) := by decide +kernel
theorem dX4_lossUnder_29 : decode cX4_lossUnder 29 = .ok (.ladd, 1) := by decide +kernel
theorem dX4_lossUnder_30 : decode cX4_lossUnder 30 = .ok (.lstore_n 3, 1) := by decide +kernel
theorem dX4_lossUnder_31 : decode cX4_lossUnder 31 = .ok (.iinc 5 1, 3) := by decide +kernel
theorem dX4_lossUnder_34 : decode cX4_lossUnder 34 = .ok (.goto (-29), 3) := by decide +kernel
theorem dX4_lossUnder_37 : decode cX4_lossUnder 37 = .ok (.lload_n 3, 1) := by decide +kernel
theorem dX4_lossUnder_38 : decode cX4_lossUnder 38 = .ok (.lneg, 1) := by decide +kernel
theorem dX4_lossUnder_39 : decode cX4_lossUnder 39 = .ok (.lreturn, 1) := by decide +kernel
theorem dX4_extraOf_0 : decode cX4_extraOf 0 = .ok (.lconst 0, 1) := by decide +kernel
theorem dX4_extraOf_1 : decode cX4_extraOf 1 = .ok (.lstore_n 2, 1) := by decide +kernel
theorem dX4_extraOf_2 : decode cX4_extraOf 2 = .ok (.iconst 0, 1) := by decide +kernel
theorem dX4_extraOf_3 : decode cX4_extraOf 3 = .ok (.istore 4, 2) := by decide +kernel
theorem dX4_extraOf_5 : decode cX4_extraOf 5 = .ok (.iload 4, 2) := by decide +kernel
theorem dX4_extraOf_7 : decode cX4_extraOf 7 = .ok (.aload_n 0, 1) := by decide +kernel
theorem dX4_extraOf_8 : decode cX4_extraOf 8 = .ok (.getfield 41, 3) := by decide +kernel
theorem dX4_extraOf_11 : decode cX4_extraOf 11 = .ok (.if_icmp .ge 55, 3) := by decide +kernel
theorem dX4_extraOf_14 : decode cX4_extraOf 14 = .ok (.aload_n 1, 1) := by decide +kernel
theorem dX4_extraOf_15 : decode cX4_extraOf 15 = .ok (.getfield 114, 3) := by decide +kernel
theorem dX4_extraOf_18 : decode cX4_extraOf 18 = .ok (.iload 4, 2) := by decide +kernel
theorem dX4_extraOf_20 : decode cX4_extraOf 20 = .ok (.iaload, 1) := by decide +kernel
theorem dX4_extraOf_21 : decode cX4_extraOf 21 = .ok (.invokestatic 183, 3) := by decide +kernel
theorem dX4_extraOf_24 : decode cX4_extraOf 24 = .ok (.aload_n 0, 1) := by decide +kernel
theorem dX4_extraOf_25 : decode cX4_extraOf 25 = .ok (.getfield 17, 3) := by decide +kernel
theorem dX4_extraOf_28 : decode cX4_extraOf 28 = .ok (.iload 4, 2) := by decide +kernel
theorem dX4_extraOf_30 : decode cX4_extraOf 30 = .ok (.aaload, 1) := by decide +kernel
theorem dX4_extraOf_31 : decode cX4_extraOf 31 = .ok (.getfield 74, 3) := by decide +kernel
theorem dX4_extraOf_34 : decode cX4_extraOf 34 = .ok (.isub, 1) := by decide +kernel
theorem dX4_extraOf_35 : decode cX4_extraOf 35 = .ok (.istore 5, 2) := by decide +kernel
theorem dX4_extraOf_37 : decode cX4_extraOf 37 = .ok (.iload 5, 2) := by decide +kernel
theorem dX4_extraOf_39 : decode cX4_extraOf 39 = .ok (.ifCond .le 21, 3) := by decide +kernel
theorem dX4_extraOf_42 : decode cX4_extraOf 42 = .ok (.lload_n 2, 1) := by decide +kernel
theorem dX4_extraOf_43 : decode cX4_extraOf 43 = .ok (.iload 5, 2) := by decide +kernel
theorem dX4_extraOf_45 : decode cX4_extraOf 45 = .ok (.i2l, 1) := by decide +kernel
theorem dX4_extraOf_46 : decode cX4_extraOf 46 = .ok (.aload_n 0, 1) := by decide +kernel
theorem dX4_extraOf_47 : decode cX4_extraOf 47 = .ok (.getfield 17, 3) := by decide +kernel
theorem dX4_extraOf_50 : decode cX4_extraOf 50 = .ok (.iload 4, 2) := by decide +kernel
theorem dX4_extraOf_52 : decode cX4_extraOf 52 = .ok (.aaload, 1) := by decide +kernel
theorem dX4_extraOf_53 : decode cX4_extraOf 53 = .ok (.getfield 77, 3) := by decide +kernel
theorem dX4_extraOf_56 : decode cX4_extraOf 56 = .ok (.i2l, 1) := by decide +kernel
theorem dX4_extraOf_57 : decode cX4_extraOf 57 = .ok (.lmul, 1) := by decide +kernel
theorem dX4_extraOf_58 : decode cX4_extraOf 58 = .ok (.ladd, 1) := by decide +kernel
theorem dX4_extraOf_59 : decode cX4_extraOf 59 = .ok (.lstore_n 2, 1) := by decide +kernel
theorem dX4_extraOf_60 : decode cX4_extraOf 60 = .ok (.iinc 4 1, 3) := by decide +kernel
theorem dX4_extraOf_63 : decode cX4_extraOf 63 = .ok (.goto (-58), 3) := by decide +kernel
theorem dX4_extraOf_66 : decode cX4_extraOf 66 = .ok (.lload_n 2, 1) := by decide +kernel
theorem dX4_extraOf_67 : decode cX4_extraOf 67 = .ok (.lreturn, 1) := by decide +kernel
theorem dX4_shortfallOf_0 : decode cX4_shortfallOf 0 = .ok (.aload_n 1, 1) := by decide +kernel
theorem dX4_shortfallOf_1 : decode cX4_shortfallOf 1 = .ok (.getfield 127, 3) := by decide +kernel
theorem dX4_shortfallOf_4 : decode cX4_shortfallOf 4 = .ok (.ifCond .eq 5, 3) := by decide +kernel
theorem dX4_shortfallOf_7 : decode cX4_shortfallOf 7 = .ok (.lconst 0, 1) := by decide +kernel
theorem dX4_shortfallOf_8 : decode cX4_shortfallOf 8 = .ok (.lreturn, 1) := by decide +kernel
theorem dX4_shortfallOf_9 : decode cX4_shortfallOf 9 = .ok (.lconst 0, 1) := by decide +kernel
theorem dX4_shortfallOf_10 : decode cX4_shortfallOf 10 = .ok (.aload_n 0, 1) := by decide +kernel
theorem dX4_shortfallOf_11 : decode cX4_shortfallOf 11 = .ok (.aload_n 1, 1) := by decide +kernel
theorem dX4_shortfallOf_12 : decode cX4_shortfallOf 12 = .ok (.invokevirtual 108, 3) := by decide +kernel
theorem dX4_shortfallOf_15 : decode cX4_shortfallOf 15 = .ok (.aload_n 1, 1) := by decide +kernel
theorem dX4_shortfallOf_16 : decode cX4_shortfallOf 16 = .ok (.getfield 105, 3) := by decide +kernel
theorem dX4_shortfallOf_19 : decode cX4_shortfallOf 19 = .ok (.lsub, 1) := by decide +kernel
theorem dX4_shortfallOf_20 : decode cX4_shortfallOf 20 = .ok (.invokestatic 174, 3) := by decide +kernel
theorem dX4_shortfallOf_23 : decode cX4_shortfallOf 23 = .ok (.lreturn, 1) := by decide +kernel
theorem dX4_sumCash_0 : decode cX4_sumCash 0 = .ok (.lconst 0, 1) := by decide +kernel
theorem dX4_sumCash_1 : decode cX4_sumCash 1 = .ok (.lstore_n 1, 1) := by decide +kernel
theorem dX4_sumCash_2 : decode cX4_sumCash 2 = .ok (.iconst 0, 1) := by decide +kernel
theorem dX4_sumCash_3 : decode cX4_sumCash 3 = .ok (.istore_n 3, 1) := by decide +kernel
theorem dX4_sumCash_4 : decode cX4_sumCash 4 = .ok (.iload_n 3, 1) := by decide +kernel
theorem dX4_sumCash_5 : decode cX4_sumCash 5 = .ok (.aload_n 0, 1) := by decide +kernel
theorem dX4_sumCash_6 : decode cX4_sumCash 6 = .ok (.getfield 37, 3) := by decide +kernel
theorem dX4_sumCash_9 : decode cX4_sumCash 9 = .ok (.if_icmp .ge 21, 3) := by decide +kernel
theorem dX4_sumCash_12 : decode cX4_sumCash 12 = .ok (.lload_n 1, 1) := by decide +kernel
theorem dX4_sumCash_13 : decode cX4_sumCash 13 = .ok (.aload_n 0, 1) := by decide +kernel
theorem dX4_sumCash_14 : decode cX4_sumCash 14 = .ok (.getfield 11, 3) := by decide +kernel
theorem dX4_sumCash_17 : decode cX4_sumCash 17 = .ok (.iload_n 3, 1) := by decide +kernel
theorem dX4_sumCash_18 : decode cX4_sumCash 18 = .ok (.aaload, 1) := by decide +kernel
theorem dX4_sumCash_19 : decode cX4_sumCash 19 = .ok (.getfield 105, 3) := by decide +kernel
theorem dX4_sumCash_22 : decode cX4_sumCash 22 = .ok (.ladd, 1) := by decide +kernel
theorem dX4_sumCash_23 : decode cX4_sumCash 23 = .ok (.lstore_n 1, 1) := by decide +kernel
theorem dX4_sumCash_24 : decode cX4_sumCash 24 = .ok (.iinc 3 1, 3) := by decide +kernel
theorem dX4_sumCash_27 : decode cX4_sumCash 27 = .ok (.goto (-23), 3) := by decide +kernel
theorem dX4_sumCash_30 : decode cX4_sumCash 30 = .ok (.lload_n 1, 1) := by decide +kernel
theorem dX4_sumCash_31 : decode cX4_sumCash 31 = .ok (.lreturn, 1) := by decide +kernel
theorem dX4_sumContributions_0 : decode cX4_sumContributions 0 = .ok (.lconst 0, 1) := by decide +kernel
theorem dX4_sumContributions_1 : decode cX4_sumContributions 1 = .ok (.lstore_n 1, 1) := by decide +kernel
theorem dX4_sumContributions_2 : decode cX4_sumContributions 2 = .ok (.iconst 0, 1) := by decide +kernel
theorem dX4_sumContributions_3 : decode cX4_sumContributions 3 = .ok (.istore_n 3, 1) := by decide +kernel
theorem dX4_sumContributions_4 : decode cX4_sumContributions 4 = .ok (.iload_n 3, 1) := by decide +kernel
theorem dX4_sumContributions_5 : decode cX4_sumContributions 5 = .ok (.aload_n 0, 1) := by decide +kernel
theorem dX4_sumContributions_6 : decode cX4_sumContributions 6 = .ok (.getfield 37, 3) := by decide +kernel
theorem dX4_sumContributions_9 : decode cX4_sumContributions 9 = .ok (.if_icmp .ge 21, 3) := by decide +kernel
theorem dX4_sumContributions_12 : decode cX4_sumContributions 12 = .ok (.lload_n 1, 1) := by decide +kernel
theorem dX4_sumContributions_13 : decode cX4_sumContributions 13 = .ok (.aload_n 0, 1) := by decide +kernel
theorem dX4_sumContributions_14 : decode cX4_sumContributions 14 = .ok (.getfield 11, 3) := by decide +kernel
theorem dX4_sumContributions_17 : decode cX4_sumContributions 17 = .ok (.iload_n 3, 1) := by decide +kernel
theorem dX4_sumContributions_18 : decode cX4_sumContributions 18 = .ok (.aaload, 1) := by decide +kernel
theorem dX4_sumContributions_19 : decode cX4_sumContributions 19 = .ok (.getfield 66, 3) := by decide +kernel
theorem dX4_sumContributions_22 : decode cX4_sumContributions 22 = .ok (.ladd, 1) := by decide +kernel
theorem dX4_sumContributions_23 : decode cX4_sumContributions 23 = .ok (.lstore_n 1, 1) := by decide +kernel
theorem dX4_sumContributions_24 : decode cX4_sumContributions 24 = .ok (.iinc 3 1, 3) := by decide +kernel
theorem dX4_sumContributions_27 : decode cX4_sumContributions 27 = .ok (.goto (-23), 3) := by decide +kernel
theorem dX4_sumContributions_30 : decode cX4_sumContributions 30 = .ok (.lload_n 1, 1) := by decide +kernel
theorem dX4_sumContributions_31 : decode cX4_sumContributions 31 = .ok (.lreturn, 1) := by decide +kernel
theorem dX4_sumUnitsOpen_0 : decode cX4_sumUnitsOpen 0 = .ok (.lconst 0, 1) := by decide +kernel
theorem dX4_sumUnitsOpen_1 : decode cX4_sumUnitsOpen 1 = .ok (.lstore_n 1, 1) := by decide +kernel
theorem dX4_sumUnitsOpen_2 : decode cX4_sumUnitsOpen 2 = .ok (.iconst 0, 1) := by decide +kernel
theorem dX4_sumUnitsOpen_3 : decode cX4_sumUnitsOpen 3 = .ok (.istore_n 3, 1) := by decide +kernel
theorem dX4_sumUnitsOpen_4 : decode cX4_sumUnitsOpen 4 = .ok (.iload_n 3, 1) := by decide +kernel
theorem dX4_sumUnitsOpen_5 : decode cX4_sumUnitsOpen 5 = .ok (.aload_n 0, 1) := by decide +kernel
theorem dX4_sumUnitsOpen_6 : decode cX4_sumUnitsOpen 6 = .ok (.getfield 37, 3) := by decide +kernel
theorem dX4_sumUnitsOpen_9 : decode cX4_sumUnitsOpen 9 = .ok (.if_icmp .ge 47, 3) := by decide +kernel
theorem dX4_sumUnitsOpen_12 : decode cX4_sumUnitsOpen 12 = .ok (.iconst 0, 1) := by decide +kernel
theorem dX4_sumUnitsOpen_13 : decode cX4_sumUnitsOpen 13 = .ok (.istore 4, 2) := by decide +kernel
theorem dX4_sumUnitsOpen_15 : decode cX4_sumUnitsOpen 15 = .ok (.iload 4, 2) := by decide +kernel
theorem dX4_sumUnitsOpen_17 : decode cX4_sumUnitsOpen 17 = .ok (.aload_n 0, 1) := by decide +kernel
theorem dX4_sumUnitsOpen_18 : decode cX4_sumUnitsOpen 18 = .ok (.getfield 41, 3) := by decide +kernel
theorem dX4_sumUnitsOpen_21 : decode cX4_sumUnitsOpen 21 = .ok (.if_icmp .ge 29, 3) := by decide +kernel
theorem dX4_sumUnitsOpen_24 : decode cX4_sumUnitsOpen 24 = .ok (.lload_n 1, 1) := by decide +kernel
theorem dX4_sumUnitsOpen_25 : decode cX4_sumUnitsOpen 25 = .ok (.iconst 0, 1) := by decide +kernel
theorem dX4_sumUnitsOpen_26 : decode cX4_sumUnitsOpen 26 = .ok (.aload_n 0, 1) := by decide +kernel
theorem dX4_sumUnitsOpen_27 : decode cX4_sumUnitsOpen 27 = .ok (.getfield 11, 3) := by decide +kernel
theorem dX4_sumUnitsOpen_30 : decode cX4_sumUnitsOpen 30 = .ok (.iload_n 3, 1) := by decide +kernel
theorem dX4_sumUnitsOpen_31 : decode cX4_sumUnitsOpen 31 = .ok (.aaload, 1) := by decide +kernel
theorem dX4_sumUnitsOpen_32 : decode cX4_sumUnitsOpen 32 = .ok (.getfield 114, 3) := by decide +kernel
theorem dX4_sumUnitsOpen_35 : decode cX4_sumUnitsOpen 35 = .ok (.iload 4, 2) := by decide +kernel
theorem dX4_sumUnitsOpen_37 : decode cX4_sumUnitsOpen 37 = .ok (.iaload, 1) := by decide +kernel
theorem dX4_sumUnitsOpen_38 : decode cX4_sumUnitsOpen 38 = .ok (.invokestatic 187, 3) := by decide +kernel
theorem dX4_sumUnitsOpen_41 : decode cX4_sumUnitsOpen 41 = .ok (.i2l, 1) := by decide +kernel
theorem dX4_sumUnitsOpen_42 : decode cX4_sumUnitsOpen 42 = .ok (.ladd, 1) := by decide +kernel
theorem dX4_sumUnitsOpen_43 : decode cX4_sumUnitsOpen 43 = .ok (.lstore_n 1, 1) := by decide +kernel
theorem dX4_sumUnitsOpen_44 : decode cX4_sumUnitsOpen 44 = .ok (.iinc 4 1, 3) := by decide +kernel
theorem dX4_sumUnitsOpen_47 : decode cX4_sumUnitsOpen 47 = .ok (.goto (-32), 3) := by decide +kernel
theorem dX4_sumUnitsOpen_50 : decode cX4_sumUnitsOpen 50 = .ok (.iinc 3 1, 3) := by decide +kernel
theorem dX4_sumUnitsOpen_53 : decode cX4_sumUnitsOpen 53 = .ok (.goto (-49), 3) := by decide +kernel
theorem dX4_sumUnitsOpen_56 : decode cX4_sumUnitsOpen 56 = .ok (.lload_n 1, 1) := by decide +kernel
theorem dX4_sumUnitsOpen_57 : decode cX4_sumUnitsOpen 57 = .ok (.lreturn, 1) := by decide +kernel
theorem dX4_startPlan_0 : decode cX4_startPlan 0 = .ok (.iconst 0, 1) := by decide +kernel
theorem dX4_startPlan_1 : decode cX4_startPlan 1 = .ok (.istore_n 1, 1) := by decide +kernel
theorem dX4_startPlan_2 : decode cX4_startPlan 2 = .ok (.iload_n 1, 1) := by decide +kernel
theorem dX4_startPlan_3 : decode cX4_startPlan 3 = .ok (.aload_n 0, 1) := by decide +kernel
theorem dX4_startPlan_4 : decode cX4_startPlan 4 = .ok (.getfield 37, 3) := by decide +kernel
theorem dX4_startPlan_7 : decode cX4_startPlan 7 = .ok (.if_icmp .ge 45, 3) := by decide +kernel
theorem dX4_startPlan_10 : decode cX4_startPlan 10 = .ok (.aload_n 0, 1) := by decide +kernel
theorem dX4_startPlan_11 : decode cX4_startPlan 11 = .ok (.getfield 33, 3) := by decide +kernel
theorem dX4_startPlan_14 : decode cX4_startPlan 14 = .ok (.getfield 190, 3) := by decide +kernel
theorem dX4_startPlan_17 : decode cX4_startPlan 17 = .ok (.iload_n 1, 1) := by decide +kernel
theorem dX4_startPlan_18 : decode cX4_startPlan 18 = .ok (.aload_n 0, 1) := by decide +kernel
theorem dX4_startPlan_19 : decode cX4_startPlan 19 = .ok (.getfield 11, 3) := by decide +kernel
theorem dX4_startPlan_22 : decode cX4_startPlan 22 = .ok (.iload_n 1, 1) := by decide +kernel
theorem dX4_startPlan_23 : decode cX4_startPlan 23 = .ok (.aaload, 1) := by decide +kernel
theorem dX4_startPlan_24 : decode cX4_startPlan 24 = .ok (.getfield 105, 3) := by decide +kernel
theorem dX4_startPlan_27 : decode cX4_startPlan 27 = .ok (.lastore, 1) := by decide +kernel
theorem dX4_startPlan_28 : decode cX4_startPlan 28 = .ok (.aload_n 0, 1) := by decide +kernel
theorem dX4_startPlan_29 : decode cX4_startPlan 29 = .ok (.getfield 33, 3) := by decide +kernel
theorem dX4_startPlan_32 : decode cX4_startPlan 32 = .ok (.getfield 192, 3) := by decide +kernel
theorem dX4_startPlan_35 : decode cX4_startPlan 35 = .ok (.iload_n 1, 1) := by decide +kernel
theorem dX4_startPlan_36 : decode cX4_startPlan 36 = .ok (.aload_n 0, 1) := by decide +kernel
theorem dX4_startPlan_37 : decode cX4_startPlan 37 = .ok (.getfield 11, 3) := by decide +kernel
theorem dX4_startPlan_40 : decode cX4_startPlan 40 = .ok (.iload_n 1, 1) := by decide +kernel
theorem dX4_startPlan_41 : decode cX4_startPlan 41 = .ok (.aaload, 1) := by decide +kernel
theorem dX4_startPlan_42 : decode cX4_startPlan 42 = .ok (.getfield 66, 3) := by decide +kernel
theorem dX4_startPlan_45 : decode cX4_startPlan 45 = .ok (.lastore, 1) := by decide +kernel
theorem dX4_startPlan_46 : decode cX4_startPlan 46 = .ok (.iinc 1 1, 3) := by decide +kernel
theorem dX4_startPlan_49 : decode cX4_startPlan 49 = .ok (.goto (-47), 3) := by decide +kernel
theorem dX4_startPlan_52 : decode cX4_startPlan 52 = .ok (.aload_n 0, 1) := by decide +kernel
theorem dX4_startPlan_53 : decode cX4_startPlan 53 = .ok (.getfield 33, 3) := by decide +kernel
theorem dX4_startPlan_56 : decode cX4_startPlan 56 = .ok (.aload_n 0, 1) := by decide +kernel
theorem dX4_startPlan_57 : decode cX4_startPlan 57 = .ok (.getfield 47, 3) := by decide +kernel
theorem dX4_startPlan_60 : decode cX4_startPlan 60 = .ok (.putfield 194, 3) := by decide +kernel
theorem dX4_startPlan_63 : decode cX4_startPlan 63 = .ok (.return_, 1) := by decide +kernel
theorem dX4_planTakers_0 : decode cX4_planTakers 0 = .ok (.iconst 0, 1) := by decide +kernel
theorem dX4_planTakers_1 : decode cX4_planTakers 1 = .ok (.istore_n 2, 1) := by decide +kernel
theorem dX4_planTakers_2 : decode cX4_planTakers 2 = .ok (.iload_n 2, 1) := by decide +kernel
theorem dX4_planTakers_3 : decode cX4_planTakers 3 = .ok (.aload_n 0, 1) := by decide +kernel
theorem dX4_planTakers_4 : decode cX4_planTakers 4 = .ok (.getfield 41, 3) := by decide +kernel
theorem dX4_planTakers_7 : decode cX4_planTakers 7 = .ok (.if_icmp .ge 56, 3) := by decide +kernel
theorem dX4_planTakers_10 : decode cX4_planTakers 10 = .ok (.aload_n 0, 1) := by decide +kernel
theorem dX4_planTakers_11 : decode cX4_planTakers 11 = .ok (.getfield 33, 3) := by decide +kernel
theorem dX4_planTakers_14 : decode cX4_planTakers 14 = .ok (.getfield 197, 3) := by decide +kernel
theorem dX4_planTakers_17 : decode cX4_planTakers 17 = .ok (.iload_n 2, 1) := by decide +kernel
theorem dX4_planTakers_18 : decode cX4_planTakers 18 = .ok (.iconst (-1), 1) := by decide +kernel
theorem dX4_planTakers_19 : decode cX4_planTakers 19 = .ok (.iastore, 1) := by decide +kernel
theorem dX4_planTakers_20 : decode cX4_planTakers 20 = .ok (.aload_n 0, 1) := by decide +kernel
theorem dX4_planTakers_21 : decode cX4_planTakers 21 = .ok (.getfield 11, 3) := by decide +kernel
theorem dX4_planTakers_24 : decode cX4_planTakers 24 = .ok (.iload_n 1, 1) := by decide +kernel
theorem dX4_planTakers_25 : decode cX4_planTakers 25 = .ok (.aaload, 1) := by decide +kernel
theorem dX4_planTakers_26 : decode cX4_planTakers 26 = .ok (.getfield 114, 3) := by decide +kernel
theorem dX4_planTakers_29 : decode cX4_planTakers 29 = .ok (.iload_n 2, 1) := by decide +kernel
theorem dX4_planTakers_30 : decode cX4_planTakers 30 = .ok (.iaload, 1) := by decide +kernel
theorem dX4_planTakers_31 : decode cX4_planTakers 31 = .ok (.ifCond .eq 26, 3) := by decide +kernel
theorem dX4_planTakers_34 : decode cX4_planTakers 34 = .ok (.aload_n 0, 1) := by decide +kernel
theorem dX4_planTakers_35 : decode cX4_planTakers 35 = .ok (.iload_n 2, 1) := by decide +kernel
theorem dX4_planTakers_36 : decode cX4_planTakers 36 = .ok (.invokevirtual 200, 3) := by decide +kernel
theorem dX4_planTakers_39 : decode cX4_planTakers 39 = .ok (.istore_n 3, 1) := by decide +kernel
theorem dX4_planTakers_40 : decode cX4_planTakers 40 = .ok (.iload_n 3, 1) := by decide +kernel
theorem dX4_planTakers_41 : decode cX4_planTakers 41 = .ok (.iconst (-1), 1) := by decide +kernel
theorem dX4_planTakers_42 : decode cX4_planTakers 42 = .ok (.if_icmp .eq 13, 3) := by decide +kernel
theorem dX4_planTakers_45 : decode cX4_planTakers 45 = .ok (.aload_n 0, 1) := by decide +kernel
theorem dX4_planTakers_46 : decode cX4_planTakers 46 = .ok (.iload_n 1, 1) := by decide +kernel
theorem dX4_planTakers_47 : decode cX4_planTakers 47 = .ok (.iload_n 3, 1) := by decide +kernel
theorem dX4_planTakers_48 : decode cX4_planTakers 48 = .ok (.iload_n 2, 1) := by decide +kernel
theorem dX4_planTakers_49 : decode cX4_planTakers 49 = .ok (.invokevirtual 203, 3) := by decide +kernel
theorem dX4_planTakers_52 : decode cX4_planTakers 52 = .ok (.ifCond .ne 5, 3) := by decide +kernel
theorem dX4_planTakers_55 : decode cX4_planTakers 55 = .ok (.iconst 0, 1) := by decide +kernel
theorem dX4_planTakers_56 : decode cX4_planTakers 56 = .ok (.ireturn, 1) := by decide +kernel
theorem dX4_planTakers_57 : decode cX4_planTakers 57 = .ok (.iinc 2 1, 3) := by decide +kernel
theorem dX4_planTakers_60 : decode cX4_planTakers 60 = .ok (.goto (-58), 3) := by decide +kernel
theorem dX4_planTakers_63 : decode cX4_planTakers 63 = .ok (.iconst 1, 1) := by decide +kernel
theorem dX4_planTakers_64 : decode cX4_planTakers 64 = .ok (.ireturn, 1) := by decide +kernel
theorem dX4_leastBidder_0 : decode cX4_leastBidder 0 = .ok (.iconst (-1), 1) := by decide +kernel
theorem dX4_leastBidder_1 : decode cX4_leastBidder 1 = .ok (.istore_n 2, 1) := by decide +kernel
theorem dX4_leastBidder_2 : decode cX4_leastBidder 2 = .ok (.iconst 0, 1) := by decide +kernel
theorem dX4_leastBidder_3 : decode cX4_leastBidder 3 = .ok (.istore_n 3, 1) := by decide +kernel
theorem dX4_leastBidder_4 : decode cX4_leastBidder 4 = .ok (.iload_n 3, 1) := by decide +kernel
theorem dX4_leastBidder_5 : decode cX4_leastBidder 5 = .ok (.aload_n 0, 1) := by decide +kernel
theorem dX4_leastBidder_6 : decode cX4_leastBidder 6 = .ok (.getfield 37, 3) := by decide +kernel
theorem dX4_leastBidder_9 : decode cX4_leastBidder 9 = .ok (.if_icmp .ge 53, 3) := by decide +kernel
theorem dX4_leastBidder_12 : decode cX4_leastBidder 12 = .ok (.aload_n 0, 1) := by decide +kernel
theorem dX4_leastBidder_13 : decode cX4_leastBidder 13 = .ok (.getfield 11, 3) := by decide +kernel
theorem dX4_leastBidder_16 : decode cX4_leastBidder 16 = .ok (.iload_n 3, 1) := by decide +kernel
theorem dX4_leastBidder_17 : decode cX4_leastBidder 17 = .ok (.aaload, 1) := by decide +kernel
theorem dX4_leastBidder_18 : decode cX4_leastBidder 18 = .ok (.getfield 127, 3) := by decide +kernel
theorem dX4_leastBidder_21 : decode cX4_leastBidder 21 = .ok (.ifCond .ne 35, 3) := by decide +kernel
theorem dX4_leastBidder_24 : decode cX4_leastBidder 24 = .ok (.iload_n 2, 1) := by decide +kernel
theorem dX4_leastBidder_25 : decode cX4_leastBidder 25 = .ok (.iconst (-1), 1) := by decide +kernel
theorem dX4_leastBidder_26 : decode cX4_leastBidder 26 = .ok (.if_icmp .eq 28, 3) := by decide +kernel
theorem dX4_leastBidder_29 : decode cX4_leastBidder 29 = .ok (.aload_n 0, 1) := by decide +kernel
theorem dX4_leastBidder_30 : decode cX4_leastBidder 30 = .ok (.getfield 11, 3) := by decide +kernel
theorem dX4_leastBidder_33 : decode cX4_leastBidder 33 = .ok (.iload_n 3, 1) := by decide +kernel
theorem dX4_leastBidder_34 : decode cX4_leastBidder 34 = .ok (.aaload, 1) := by decide +kernel
theorem dX4_leastBidder_35 : decode cX4_leastBidder 35 = .ok (.getfield 97, 3) := by decide +kernel
theorem dX4_leastBidder_38 : decode cX4_leastBidder 38 = .ok (.iload_n 1, 1) := by decide +kernel
theorem dX4_leastBidder_39 : decode cX4_leastBidder 39 = .ok (.iaload, 1) := by decide +kernel
theorem dX4_leastBidder_40 : decode cX4_leastBidder 40 = .ok (.aload_n 0, 1) := by decide +kernel
theorem dX4_leastBidder_41 : decode cX4_leastBidder 41 = .ok (.getfield 11, 3) := by decide +kernel
theorem dX4_leastBidder_44 : decode cX4_leastBidder 44 = .ok (.iload_n 2, 1) := by decide +kernel
theorem dX4_leastBidder_45 : decode cX4_leastBidder 45 = .ok (.aaload, 1) := by decide +kernel
theorem dX4_leastBidder_46 : decode cX4_leastBidder 46 = .ok (.getfield 97, 3) := by decide +kernel
theorem dX4_leastBidder_49 : decode cX4_leastBidder 49 = .ok (.iload_n 1, 1) := by decide +kernel
theorem dX4_leastBidder_50 : decode cX4_leastBidder 50 = .ok (.iaload, 1) := by decide +kernel
theorem dX4_leastBidder_51 : decode cX4_leastBidder 51 = .ok (.if_icmp .ge 5, 3) := by decide +kernel
theorem dX4_leastBidder_54 : decode cX4_leastBidder 54 = .ok (.iload_n 3, 1) := by decide +kernel
theorem dX4_leastBidder_55 : decode cX4_leastBidder 55 = .ok (.istore_n 2, 1) := by decide +kernel
theorem dX4_leastBidder_56 : decode cX4_leastBidder 56 = .ok (.iinc 3 1, 3) := by decide +kernel
theorem dX4_leastBidder_59 : decode cX4_leastBidder 59 = .ok (.goto (-55), 3) := by decide +kernel
theorem dX4_leastBidder_62 : decode cX4_leastBidder 62 = .ok (.iload_n 2, 1) := by decide +kernel
theorem dX4_leastBidder_63 : decode cX4_leastBidder 63 = .ok (.ireturn, 1) := by decide +kernel
theorem dX4_planTaking_0 : decode cX4_planTaking 0 = .ok (.aload_n 0, 1) := by decide +kernel
theorem dX4_planTaking_1 : decode cX4_planTaking 1 = .ok (.getfield 11, 3) := by decide +kernel
theorem dX4_planTaking_4 : decode cX4_planTaking 4 = .ok (.iload_n 1, 1) := by decide +kernel
theorem dX4_planTaking_5 : decode cX4_planTaking 5 = .ok (.aaload, 1) := by decide +kernel
theorem dX4_planTaking_6 : decode cX4_planTaking 6 = .ok (.getfield 114, 3) := by decide +kernel
theorem dX4_planTaking_9 : decode cX4_planTaking 9 = .ok (.iload_n 3, 1) := by decide +kernel
theorem dX4_planTaking_10 : decode cX4_planTaking 10 = .ok (.iaload, 1) := by decide +kernel
theorem dX4_planTaking_11 : decode cX4_planTaking 11 = .ok (.istore 4, 2) := by decide +kernel
theorem dX4_planTaking_13 : decode cX4_planTaking 13 = .ok (.aload_n 0, 1) := by decide +kernel
theorem dX4_planTaking_14 : decode cX4_planTaking 14 = .ok (.getfield 11, 3) := by decide +kernel
theorem dX4_planTaking_17 : decode cX4_planTaking 17 = .ok (.iload_n 2, 1) := by decide +kernel
theorem dX4_planTaking_18 : decode cX4_planTaking 18 = .ok (.aaload, 1) := by decide +kernel
theorem dX4_planTaking_19 : decode cX4_planTaking 19 = .ok (.getfield 97, 3) := by decide +kernel
theorem dX4_planTaking_22 : decode cX4_planTaking 22 = .ok (.iload_n 3, 1) := by decide +kernel
theorem dX4_planTaking_23 : decode cX4_planTaking 23 = .ok (.iaload, 1) := by decide +kernel
theorem dX4_planTaking_24 : decode cX4_planTaking 24 = .ok (.i2l, 1) := by decide +kernel
theorem dX4_planTaking_25 : decode cX4_planTaking 25 = .ok (.iload 4, 2) := by decide +kernel
theorem dX4_planTaking_27 : decode cX4_planTaking 27 = .ok (.invokestatic 183, 3) := by decide +kernel
theorem dX4_planTaking_30 : decode cX4_planTaking 30 = .ok (.i2l, 1) := by decide +kernel
theorem dX4_planTaking_31 : decode cX4_planTaking 31 = .ok (.lmul, 1) := by decide +kernel
theorem dX4_planTaking_32 : decode cX4_planTaking 32 = .ok (.lstore 5, 2) := by decide +kernel
theorem dX4_planTaking_34 : decode cX4_planTaking 34 = .ok (.aload_n 0, 1) := by decide +kernel
theorem dX4_planTaking_35 : decode cX4_planTaking 35 = .ok (.getfield 33, 3) := by decide +kernel
theorem dX4_planTaking_38 : decode cX4_planTaking 38 = .ok (.getfield 197, 3) := by decide +kernel
theorem dX4_planTaking_41 : decode cX4_planTaking 41 = .ok (.iload_n 3, 1) := by decide +kernel
theorem dX4_planTaking_42 : decode cX4_planTaking 42 = .ok (.iload_n 2, 1) := by decide +kernel
theorem dX4_planTaking_43 : decode cX4_planTaking 43 = .ok (.iastore, 1) := by decide +kernel
theorem dX4_planTaking_44 : decode cX4_planTaking 44 = .ok (.aload_n 0, 1) := by decide +kernel
theorem dX4_planTaking_45 : decode cX4_planTaking 45 = .ok (.getfield 33, 3) := by decide +kernel
theorem dX4_planTaking_48 : decode cX4_planTaking 48 = .ok (.getfield 190, 3) := by decide +kernel
theorem dX4_planTaking_51 : decode cX4_planTaking 51 = .ok (.iload_n 2, 1) := by decide +kernel
theorem dX4_planTaking_52 : decode cX4_planTaking 52 = .ok (.dup2, 1) := by decide +kernel
theorem dX4_planTaking_53 : decode cX4_planTaking 53 = .ok (.laload, 1) := by decide +kernel
theorem dX4_planTaking_54 : decode cX4_planTaking 54 = .ok (.lload 5, 2) := by decide +kernel
theorem dX4_planTaking_56 : decode cX4_planTaking 56 = .ok (.ladd, 1) := by decide +kernel
theorem dX4_planTaking_57 : decode cX4_planTaking 57 = .ok (.lastore, 1) := by decide +kernel
theorem dX4_planTaking_58 : decode cX4_planTaking 58 = .ok (.aload_n 0, 1) := by decide +kernel
theorem dX4_planTaking_59 : decode cX4_planTaking 59 = .ok (.getfield 33, 3) := by decide +kernel
theorem dX4_planTaking_62 : decode cX4_planTaking 62 = .ok (.getfield 190, 3) := by decide +kernel
theorem dX4_planTaking_65 : decode cX4_planTaking 65 = .ok (.iload_n 1, 1) := by decide +kernel
theorem dX4_planTaking_66 : decode cX4_planTaking 66 = .ok (.dup2, 1) := by decide +kernel
theorem dX4_planTaking_67 : decode cX4_planTaking 67 = .ok (.laload, 1) := by decide +kernel
theorem dX4_planTaking_68 : decode cX4_planTaking 68 = .ok (.lload 5, 2) := by decide +kernel
theorem dX4_planTaking_70 : decode cX4_planTaking 70 = .ok (.lsub, 1) := by decide +kernel
theorem dX4_planTaking_71 : decode cX4_planTaking 71 = .ok (.lastore, 1) := by decide +kernel
theorem dX4_planTaking_72 : decode cX4_planTaking 72 = .ok (.aload_n 0, 1) := by decide +kernel
theorem dX4_planTaking_73 : decode cX4_planTaking 73 = .ok (.getfield 11, 3) := by decide +kernel
theorem dX4_planTaking_76 : decode cX4_planTaking 76 = .ok (.iload_n 2, 1) := by decide +kernel
theorem dX4_planTaking_77 : decode cX4_planTaking 77 = .ok (.aaload, 1) := by decide +kernel
theorem dX4_planTaking_78 : decode cX4_planTaking 78 = .ok (.getfield 114, 3) := by decide +kernel
theorem dX4_planTaking_81 : decode cX4_planTaking 81 = .ok (.iload_n 3, 1) := by decide +kernel
theorem dX4_planTaking_82 : decode cX4_planTaking 82 = .ok (.iaload, 1) := by decide +kernel
theorem dX4_planTaking_83 : decode cX4_planTaking 83 = .ok (.iload 4, 2) := by decide +kernel
theorem dX4_planTaking_85 : decode cX4_planTaking 85 = .ok (.iadd, 1) := by decide +kernel
theorem dX4_planTaking_86 : decode cX4_planTaking 86 = .ok (.invokestatic 117, 3) := by decide +kernel
theorem dX4_planTaking_89 : decode cX4_planTaking 89 = .ok (.ifCond .ne 37, 3) := by decide +kernel
theorem dX4_planTaking_92 : decode cX4_planTaking 92 = .ok (.aload_n 0, 1) := by decide +kernel
theorem dX4_planTaking_93 : decode cX4_planTaking 93 = .ok (.getfield 33, 3) := by decide +kernel
theorem dX4_planTaking_96 : decode cX4_planTaking 96 = .ok (.getfield 190, 3) := by decide +kernel
theorem dX4_planTaking_99 : decode cX4_planTaking 99 = .ok (.iload_n 2, 1) := by decide +kernel
theorem dX4_planTaking_100 : decode cX4_planTaking 100 = .ok (.laload, 1) := by decide +kernel
theorem dX4_planTaking_101 : decode cX4_planTaking 101 = .ok (.invokestatic 80, 3) := by decide +kernel
theorem dX4_planTaking_104 : decode cX4_planTaking 104 = .ok (.ifCond .ne 22, 3) := by decide +kernel
theorem dX4_planTaking_107 : decode cX4_planTaking 107 = .ok (.aload_n 0, 1) := by decide +kernel
theorem dX4_planTaking_108 : decode cX4_planTaking 108 = .ok (.getfield 33, 3) := by decide +kernel
theorem dX4_planTaking_111 : decode cX4_planTaking 111 = .ok (.getfield 190, 3) := by decide +kernel
theorem dX4_planTaking_114 : decode cX4_planTaking 114 = .ok (.iload_n 1, 1) := by decide +kernel
theorem dX4_planTaking_115 : decode cX4_planTaking 115 = .ok (.laload, 1) := by decide +kernel
theorem dX4_planTaking_116 : decode cX4_planTaking 116 = .ok (.invokestatic 80, 3) := by decide +kernel
theorem dX4_planTaking_119 : decode cX4_planTaking 119 = .ok (.ifCond .ne 7, 3) := by decide +kernel
theorem dX4_planTaking_122 : decode cX4_planTaking 122 = .ok (.iconst 1, 1) := by decide +kernel
theorem dX4_planTaking_123 : decode cX4_planTaking 123 = .ok (.goto 4, 3) := by decide +kernel
theorem dX4_planTaking_126 : decode cX4_planTaking 126 = .ok (.iconst 0, 1) := by decide +kernel
theorem dX4_planTaking_127 : decode cX4_planTaking 127 = .ok (.ireturn, 1) := by decide +kernel
theorem dX4_planLayers_0 : decode cX4_planLayers 0 = .ok (.aload_n 0, 1) := by decide +kernel
theorem dX4_planLayers_1 : decode cX4_planLayers 1 = .ok (.getfield 33, 3) := by decide +kernel
theorem dX4_planLayers_4 : decode cX4_planLayers 4 = .ok (.iload_n 1, 1) := by decide +kernel
theorem dX4_planLayers_5 : decode cX4_planLayers 5 = .ok (.invokevirtual 207, 3) := by decide +kernel
theorem dX4_planLayers_8 : decode cX4_planLayers 8 = .ok (.aload_n 0, 1) := by decide +kernel
theorem dX4_planLayers_9 : decode cX4_planLayers 9 = .ok (.getfield 33, 3) := by decide +kernel
theorem dX4_planLayers_12 : decode cX4_planLayers 12 = .ok (.iload_n 1, 1) := by decide +kernel
theorem dX4_planLayers_13 : decode cX4_planLayers 13 = .ok (.invokevirtual 210, 3) := by decide +kernel
theorem dX4_planLayers_16 : decode cX4_planLayers 16 = .ok (.aload_n 0, 1) := by decide +kernel
theorem dX4_planLayers_17 : decode cX4_planLayers 17 = .ok (.getfield 33, 3) := by decide +kernel
theorem dX4_planLayers_20 : decode cX4_planLayers 20 = .ok (.invokevirtual 213, 3) := by decide +kernel
theorem dX4_planLayers_23 : decode cX4_planLayers 23 = .ok (.aload_n 0, 1) := by decide +kernel
theorem dX4_planLayers_24 : decode cX4_planLayers 24 = .ok (.invokevirtual 216, 3) := by decide +kernel
theorem dX4_planLayers_27 : decode cX4_planLayers 27 = .ok (.aload_n 0, 1) := by decide +kernel
theorem dX4_planLayers_28 : decode cX4_planLayers 28 = .ok (.getfield 33, 3) := by decide +kernel
theorem dX4_planLayers_31 : decode cX4_planLayers 31 = .ok (.invokevirtual 219, 3) := by decide +kernel
theorem dX4_planLayers_34 : decode cX4_planLayers 34 = .ok (.aload_n 0, 1) := by decide +kernel
theorem dX4_planLayers_35 : decode cX4_planLayers 35 = .ok (.invokevirtual 222, 3) := by decide +kernel
theorem dX4_planLayers_38 : decode cX4_planLayers 38 = .ok (.aload_n 0, 1) := by decide +kernel
theorem dX4_planLayers_39 : decode cX4_planLayers 39 = .ok (.getfield 33, 3) := by decide +kernel
theorem dX4_planLayers_42 : decode cX4_planLayers 42 = .ok (.invokevirtual 225, 3) := by decide +kernel
theorem dX4_planLayers_45 : decode cX4_planLayers 45 = .ok (.aload_n 0, 1) := by decide +kernel
theorem dX4_planLayers_46 : decode cX4_planLayers 46 = .ok (.getfield 33, 3) := by decide +kernel
theorem dX4_planLayers_49 : decode cX4_planLayers 49 = .ok (.invokevirtual 228, 3) := by decide +kernel
theorem dX4_planLayers_52 : decode cX4_planLayers 52 = .ok (.return_, 1) := by decide +kernel
theorem dX4_weighContributions_0 : decode cX4_weighContributions 0 = .ok (.iconst 0, 1) := by decide +kernel
theorem dX4_weighContributions_1 : decode cX4_weighContributions 1 = .ok (.istore_n 1, 1) := by decide +kernel
theorem dX4_weighContributions_2 : decode cX4_weighContributions 2 = .ok (.iload_n 1, 1) := by decide +kernel
theorem dX4_weighContributions_3 : decode cX4_weighContributions 3 = .ok (.aload_n 0, 1) := by decide +kernel
theorem dX4_weighContributions_4 : decode cX4_weighContributions 4 = .ok (.getfield 37, 3) := by decide +kernel
theorem dX4_weighContributions_7 : decode cX4_weighContributions 7 = .ok (.if_icmp .ge 46, 3) := by decide +kernel
theorem dX4_weighContributions_10 : decode cX4_weighContributions 10 = .ok (.aload_n 0, 1) := by decide +kernel
theorem dX4_weighContributions_11 : decode cX4_weighContributions 11 = .ok (.getfield 33, 3) := by decide +kernel
theorem dX4_weighContributions_14 : decode cX4_weighContributions 14 = .ok (.getfield 231, 3) := by decide +kernel
theorem dX4_weighContributions_17 : decode cX4_weighContributions 17 = .ok (.getfield 235, 3) := by decide +kernel
theorem dX4_weighContributions_20 : decode cX4_weighContributions 20 = .ok (.iload_n 1, 1) := by decide +kernel
theorem dX4_weighContributions_21 : decode cX4_weighContributions 21 = .ok (.aload_n 0, 1) := by decide +kernel
theorem dX4_weighContributions_22 : decode cX4_weighContributions 22 = .ok (.getfield 11, 3) := by decide +kernel
theorem dX4_weighContributions_25 : decode cX4_weighContributions 25 = .ok (.iload_n 1, 1) := by decide +kernel
theorem dX4_weighContributions_26 : decode cX4_weighContributions 26 = .ok (.aaload, 1) := by decide +kernel
theorem dX4_weighContributions_27 : decode cX4_weighContributions 27 = .ok (.getfield 127, 3) := by decide +kernel
theorem dX4_weighContributions_30 : decode cX4_weighContributions 30 = .ok (.ifCond .ne 15, 3) := by decide +kernel
theorem dX4_weighContributions_33 : decode cX4_weighContributions 33 = .ok (.aload_n 0, 1) := by decide +kernel
theorem dX4_weighContributions_34 : decode cX4_weighContributions 34 = .ok (.getfield 11, 3) := by decide +kernel
theorem dX4_weighContributions_37 : decode cX4_weighContributions 37 = .ok (.iload_n 1, 1) := by decide +kernel
theorem dX4_weighContributions_38 : decode cX4_weighContributions 38 = .ok (.aaload, 1) := by decide +kernel
theorem dX4_weighContributions_39 : decode cX4_weighContributions 39 = .ok (.getfield 66, 3) := by decide +kernel
theorem dX4_weighContributions_42 : decode cX4_weighContributions 42 = .ok (.goto 4, 3) := by decide +kernel
theorem dX4_weighContributions_45 : decode cX4_weighContributions 45 = .ok (.lconst 0, 1) := by decide +kernel
theorem dX4_weighContributions_46 : decode cX4_weighContributions 46 = .ok (.lastore, 1) := by decide +kernel
theorem dX4_weighContributions_47 : decode cX4_weighContributions 47 = .ok (.iinc 1 1, 3) := by decide +kernel
theorem dX4_weighContributions_50 : decode cX4_weighContributions 50 = .ok (.goto (-48), 3) := by decide +kernel
theorem dX4_weighContributions_53 : decode cX4_weighContributions 53 = .ok (.return_, 1) := by decide +kernel
theorem dX4_weighCalls_0 : decode cX4_weighCalls 0 = .ok (.iconst 0, 1) := by decide +kernel
theorem dX4_weighCalls_1 : decode cX4_weighCalls 1 = .ok (.istore_n 1, 1) := by decide +kernel
theorem dX4_weighCalls_2 : decode cX4_weighCalls 2 = .ok (.iload_n 1, 1) := by decide +kernel
theorem dX4_weighCalls_3 : decode cX4_weighCalls 3 = .ok (.aload_n 0, 1) := by decide +kernel
theorem dX4_weighCalls_4 : decode cX4_weighCalls 4 = .ok (.getfield 37, 3) := by decide +kernel
theorem dX4_weighCalls_7 : decode cX4_weighCalls 7 = .ok (.if_icmp .ge 64, 3) := by decide +kernel
theorem dX4_weighCalls_10 : decode cX4_weighCalls 10 = .ok (.aload_n 0, 1) := by decide +kernel
theorem dX4_weighCalls_11 : decode cX4_weighCalls 11 = .ok (.getfield 11, 3) := by decide +kernel
theorem dX4_weighCalls_14 : decode cX4_weighCalls 14 = .ok (.iload_n 1, 1) := by decide +kernel
theorem dX4_weighCalls_15 : decode cX4_weighCalls 15 = .ok (.aaload, 1) := by decide +kernel
theorem dX4_weighCalls_16 : decode cX4_weighCalls 16 = .ok (.getfield 66, 3) := by decide +kernel
theorem dX4_weighCalls_19 : decode cX4_weighCalls 19 = .ok (.lconst 0, 1) := by decide +kernel
theorem dX4_weighCalls_20 : decode cX4_weighCalls 20 = .ok (.aload_n 0, 1) := by decide +kernel
theorem dX4_weighCalls_21 : decode cX4_weighCalls 21 = .ok (.getfield 33, 3) := by decide +kernel
theorem dX4_weighCalls_24 : decode cX4_weighCalls 24 = .ok (.getfield 190, 3) := by decide +kernel
theorem dX4_weighCalls_27 : decode cX4_weighCalls 27 = .ok (.iload_n 1, 1) := by decide +kernel
theorem dX4_weighCalls_28 : decode cX4_weighCalls 28 = .ok (.laload, 1) := by decide +kernel
theorem dX4_weighCalls_29 : decode cX4_weighCalls 29 = .ok (.invokestatic 174, 3) := by decide +kernel
theorem dX4_weighCalls_32 : decode cX4_weighCalls 32 = .ok (.invokestatic 240, 3) := by decide +kernel
theorem dX4_weighCalls_35 : decode cX4_weighCalls 35 = .ok (.lstore_n 2, 1) := by decide +kernel
theorem dX4_weighCalls_36 : decode cX4_weighCalls 36 = .ok (.aload_n 0, 1) := by decide +kernel
theorem dX4_weighCalls_37 : decode cX4_weighCalls 37 = .ok (.getfield 33, 3) := by decide +kernel
theorem dX4_weighCalls_40 : decode cX4_weighCalls 40 = .ok (.getfield 231, 3) := by decide +kernel
theorem dX4_weighCalls_43 : decode cX4_weighCalls 43 = .ok (.getfield 235, 3) := by decide +kernel
theorem dX4_weighCalls_46 : decode cX4_weighCalls 46 = .ok (.iload_n 1, 1) := by decide +kernel
theorem dX4_weighCalls_47 : decode cX4_weighCalls 47 = .ok (.aload_n 0, 1) := by decide +kernel
theorem dX4_weighCalls_48 : decode cX4_weighCalls 48 = .ok (.getfield 11, 3) := by decide +kernel
theorem dX4_weighCalls_51 : decode cX4_weighCalls 51 = .ok (.iload_n 1, 1) := by decide +kernel
theorem dX4_weighCalls_52 : decode cX4_weighCalls 52 = .ok (.aaload, 1) := by decide +kernel
theorem dX4_weighCalls_53 : decode cX4_weighCalls 53 = .ok (.getfield 127, 3) := by decide +kernel
theorem dX4_weighCalls_56 : decode cX4_weighCalls 56 = .ok (.ifCond .ne 7, 3) := by decide +kernel
theorem dX4_weighCalls_59 : decode cX4_weighCalls 59 = .ok (.lload_n 2, 1) := by decide +kernel
theorem dX4_weighCalls_60 : decode cX4_weighCalls 60 = .ok (.goto 4, 3) := by decide +kernel
theorem dX4_weighCalls_63 : decode cX4_weighCalls 63 = .ok (.lconst 0, 1) := by decide +kernel
theorem dX4_weighCalls_64 : decode cX4_weighCalls 64 = .ok (.lastore, 1) := by decide +kernel
theorem dX4_weighCalls_65 : decode cX4_weighCalls 65 = .ok (.iinc 1 1, 3) := by decide +kernel
theorem dX4_weighCalls_68 : decode cX4_weighCalls 68 = .ok (.goto (-66), 3) := by decide +kernel
theorem dX4_weighCalls_71 : decode cX4_weighCalls 71 = .ok (.return_, 1) := by decide +kernel
theorem dX4_carryOutPlan_0 : decode cX4_carryOutPlan 0 = .ok (.iconst 0, 1) := by decide +kernel
theorem dX4_carryOutPlan_1 : decode cX4_carryOutPlan 1 = .ok (.istore_n 2, 1) := by decide +kernel
theorem dX4_carryOutPlan_2 : decode cX4_carryOutPlan 2 = .ok (.iload_n 2, 1) := by decide +kernel
theorem dX4_carryOutPlan_3 : decode cX4_carryOutPlan 3 = .ok (.aload_n 0, 1) := by decide +kernel
theorem dX4_carryOutPlan_4 : decode cX4_carryOutPlan 4 = .ok (.getfield 41, 3) := by decide +kernel
theorem dX4_carryOutPlan_7 : decode cX4_carryOutPlan 7 = .ok (.if_icmp .ge 67, 3) := by decide +kernel
theorem dX4_carryOutPlan_10 : decode cX4_carryOutPlan 10 = .ok (.aload_n 0, 1) := by decide +kernel
theorem dX4_carryOutPlan_11 : decode cX4_carryOutPlan 11 = .ok (.getfield 33, 3) := by decide +kernel
theorem dX4_carryOutPlan_14 : decode cX4_carryOutPlan 14 = .ok (.getfield 197, 3) := by decide +kernel
theorem dX4_carryOutPlan_17 : decode cX4_carryOutPlan 17 = .ok (.iload_n 2, 1) := by decide +kernel
theorem dX4_carryOutPlan_18 : decode cX4_carryOutPlan 18 = .ok (.iaload, 1) := by decide +kernel
theorem dX4_carryOutPlan_19 : decode cX4_carryOutPlan 19 = .ok (.iconst (-1), 1) := by decide +kernel
theorem dX4_carryOutPlan_20 : decode cX4_carryOutPlan 20 = .ok (.if_icmp .eq 48, 3) := by decide +kernel
theorem dX4_carryOutPlan_23 : decode cX4_carryOutPlan 23 = .ok (.aload_n 0, 1) := by decide +kernel
theorem dX4_carryOutPlan_24 : decode cX4_carryOutPlan 24 = .ok (.getfield 11, 3) := by decide +kernel
theorem dX4_carryOutPlan_27 : decode cX4_carryOutPlan 27 = .ok (.aload_n 0, 1) := by decide +kernel
theorem dX4_carryOutPlan_28 : decode cX4_carryOutPlan 28 = .ok (.getfield 33, 3) := by decide +kernel
theorem dX4_carryOutPlan_31 : decode cX4_carryOutPlan 31 = .ok (.getfield 197, 3) := by decide +kernel
theorem dX4_carryOutPlan_34 : decode cX4_carryOutPlan 34 = .ok (.iload_n 2, 1) := by decide +kernel
theorem dX4_carryOutPlan_35 : decode cX4_carryOutPlan 35 = .ok (.iaload, 1) := by decide +kernel
theorem dX4_carryOutPlan_36 : decode cX4_carryOutPlan 36 = .ok (.aaload, 1) := by decide +kernel
theorem dX4_carryOutPlan_37 : decode cX4_carryOutPlan 37 = .ok (.getfield 114, 3) := by decide +kernel
theorem dX4_carryOutPlan_40 : decode cX4_carryOutPlan 40 = .ok (.iload_n 2, 1) := by decide +kernel
theorem dX4_carryOutPlan_41 : decode cX4_carryOutPlan 41 = .ok (.dup2, 1) := by decide +kernel
theorem dX4_carryOutPlan_42 : decode cX4_carryOutPlan 42 = .ok (.iaload, 1) := by decide +kernel
theorem dX4_carryOutPlan_43 : decode cX4_carryOutPlan 43 = .ok (.aload_n 0, 1) := by decide +kernel
theorem dX4_carryOutPlan_44 : decode cX4_carryOutPlan 44 = .ok (.getfield 11, 3) := by decide +kernel
theorem dX4_carryOutPlan_47 : decode cX4_carryOutPlan 47 = .ok (.iload_n 1, 1) := by decide +kernel
theorem dX4_carryOutPlan_48 : decode cX4_carryOutPlan 48 = .ok (.aaload, 1) := by decide +kernel
theorem dX4_carryOutPlan_49 : decode cX4_carryOutPlan 49 = .ok (.getfield 114, 3) := by decide +kernel
theorem dX4_carryOutPlan_52 : decode cX4_carryOutPlan 52 = .ok (.iload_n 2, 1) := by decide +kernel
theorem dX4_carryOutPlan_53 : decode cX4_carryOutPlan 53 = .ok (.iaload, 1) := by decide +kernel
theorem dX4_carryOutPlan_54 : decode cX4_carryOutPlan 54 = .ok (.iadd, 1) := by decide +kernel
theorem dX4_carryOutPlan_55 : decode cX4_carryOutPlan 55 = .ok (.iastore, 1) := by decide +kernel
theorem dX4_carryOutPlan_56 : decode cX4_carryOutPlan 56 = .ok (.aload_n 0, 1) := by decide +kernel
theorem dX4_carryOutPlan_57 : decode cX4_carryOutPlan 57 = .ok (.getfield 11, 3) := by decide +kernel
theorem dX4_carryOutPlan_60 : decode cX4_carryOutPlan 60 = .ok (.iload_n 1, 1) := by decide +kernel
theorem dX4_carryOutPlan_61 : decode cX4_carryOutPlan 61 = .ok (.aaload, 1) := by decide +kernel
theorem dX4_carryOutPlan_62 : decode cX4_carryOutPlan 62 = .ok (.getfield 114, 3) := by decide +kernel
theorem dX4_carryOutPlan_65 : decode cX4_carryOutPlan 65 = .ok (.iload_n 2, 1) := by decide +kernel
theorem dX4_carryOutPlan_66 : decode cX4_carryOutPlan 66 = .ok (.iconst 0, 1) := by decide +kernel
theorem dX4_carryOutPlan_67 : decode cX4_carryOutPlan 67 = .ok (.iastore, 1) := by decide +kernel
theorem dX4_carryOutPlan_68 : decode cX4_carryOutPlan 68 = .ok (.iinc 2 1, 3) := by decide +kernel
theorem dX4_carryOutPlan_71 : decode cX4_carryOutPlan 71 = .ok (.goto (-69), 3) := by decide +kernel
theorem dX4_carryOutPlan_74 : decode cX4_carryOutPlan 74 = .ok (.iconst 0, 1) := by decide +kernel
theorem dX4_carryOutPlan_75 : decode cX4_carryOutPlan 75 = .ok (.istore_n 2, 1) := by decide +kernel
theorem dX4_carryOutPlan_76 : decode cX4_carryOutPlan 76 = .ok (.iload_n 2, 1) := by decide +kernel
theorem dX4_carryOutPlan_77 : decode cX4_carryOutPlan 77 = .ok (.aload_n 0, 1) := by decide +kernel
theorem dX4_carryOutPlan_78 : decode cX4_carryOutPlan 78 = .ok (.getfield 37, 3) := by decide +kernel
theorem dX4_carryOutPlan_81 : decode cX4_carryOutPlan 81 = .ok (.if_icmp .ge 45, 3) := by decide +kernel
theorem dX4_carryOutPlan_84 : decode cX4_carryOutPlan 84 = .ok (.aload_n 0, 1) := by decide +kernel
theorem dX4_carryOutPlan_85 : decode cX4_carryOutPlan 85 = .ok (.getfield 11, 3) := by decide +kernel
theorem dX4_carryOutPlan_88 : decode cX4_carryOutPlan 88 = .ok (.iload_n 2, 1) := by decide +kernel
theorem dX4_carryOutPlan_89 : decode cX4_carryOutPlan 89 = .ok (.aaload, 1) := by decide +kernel
theorem dX4_carryOutPlan_90 : decode cX4_carryOutPlan 90 = .ok (.aload_n 0, 1) := by decide +kernel
theorem dX4_carryOutPlan_91 : decode cX4_carryOutPlan 91 = .ok (.getfield 33, 3) := by decide +kernel
theorem dX4_carryOutPlan_94 : decode cX4_carryOutPlan 94 = .ok (.getfield 190, 3) := by decide +kernel
theorem dX4_carryOutPlan_97 : decode cX4_carryOutPlan 97 = .ok (.iload_n 2, 1) := by decide +kernel
theorem dX4_carryOutPlan_98 : decode cX4_carryOutPlan 98 = .ok (.laload, 1) := by decide +kernel
theorem dX4_carryOutPlan_99 : decode cX4_carryOutPlan 99 = .ok (.putfield 105, 3) := by decide +kernel
theorem dX4_carryOutPlan_102 : decode cX4_carryOutPlan 102 = .ok (.aload_n 0, 1) := by decide +kernel
theorem dX4_carryOutPlan_103 : decode cX4_carryOutPlan 103 = .ok (.getfield 11, 3) := by decide +kernel
theorem dX4_carryOutPlan_106 : decode cX4_carryOutPlan 106 = .ok (.iload_n 2, 1) := by decide +kernel
theorem dX4_carryOutPlan_107 : decode cX4_carryOutPlan 107 = .ok (.aaload, 1) := by decide +kernel
theorem dX4_carryOutPlan_108 : decode cX4_carryOutPlan 108 = .ok (.aload_n 0, 1) := by decide +kernel
theorem dX4_carryOutPlan_109 : decode cX4_carryOutPlan 109 = .ok (.getfield 33, 3) := by decide +kernel
theorem dX4_carryOutPlan_112 : decode cX4_carryOutPlan 112 = .ok (.getfield 192, 3) := by decide +kernel
theorem dX4_carryOutPlan_115 : decode cX4_carryOutPlan 115 = .ok (.iload_n 2, 1) := by decide +kernel
theorem dX4_carryOutPlan_116 : decode cX4_carryOutPlan 116 = .ok (.laload, 1) := by decide +kernel
theorem dX4_carryOutPlan_117 : decode cX4_carryOutPlan 117 = .ok (.putfield 66, 3) := by decide +kernel
theorem dX4_carryOutPlan_120 : decode cX4_carryOutPlan 120 = .ok (.iinc 2 1, 3) := by decide +kernel
theorem dX4_carryOutPlan_123 : decode cX4_carryOutPlan 123 = .ok (.goto (-47), 3) := by decide +kernel
theorem dX4_carryOutPlan_126 : decode cX4_carryOutPlan 126 = .ok (.iconst 0, 1) := by decide +kernel
theorem dX4_carryOutPlan_127 : decode cX4_carryOutPlan 127 = .ok (.istore_n 2, 1) := by decide +kernel
theorem dX4_carryOutPlan_128 : decode cX4_carryOutPlan 128 = .ok (.iload_n 2, 1) := by decide +kernel
theorem dX4_carryOutPlan_129 : decode cX4_carryOutPlan 129 = .ok (.iconst 5, 1) := by decide +kernel
theorem dX4_carryOutPlan_130 : decode cX4_carryOutPlan 130 = .ok (.if_icmp .ge 24, 3) := by decide +kernel
theorem dX4_carryOutPlan_133 : decode cX4_carryOutPlan 133 = .ok (.aload_n 0, 1) := by decide +kernel
theorem dX4_carryOutPlan_134 : decode cX4_carryOutPlan 134 = .ok (.getfield 26, 3) := by decide +kernel
theorem dX4_carryOutPlan_137 : decode cX4_carryOutPlan 137 = .ok (.iload_n 2, 1) := by decide +kernel
theorem dX4_carryOutPlan_138 : decode cX4_carryOutPlan 138 = .ok (.aload_n 0, 1) := by decide +kernel
theorem dX4_carryOutPlan_139 : decode cX4_carryOutPlan 139 = .ok (.getfield 33, 3) := by decide +kernel
theorem dX4_carryOutPlan_142 : decode cX4_carryOutPlan 142 = .ok (.getfield 140, 3) := by decide +kernel
theorem dX4_carryOutPlan_145 : decode cX4_carryOutPlan 145 = .ok (.iload_n 2, 1) := by decide +kernel
theorem dX4_carryOutPlan_146 : decode cX4_carryOutPlan 146 = .ok (.laload, 1) := by decide +kernel
theorem dX4_carryOutPlan_147 : decode cX4_carryOutPlan 147 = .ok (.lastore, 1) := by decide +kernel
theorem dX4_carryOutPlan_148 : decode cX4_carryOutPlan 148 = .ok (.iinc 2 1, 3) := by decide +kernel
theorem dX4_carryOutPlan_151 : decode cX4_carryOutPlan 151 = .ok (.goto (-23), 3) := by decide +kernel
theorem dX4_carryOutPlan_154 : decode cX4_carryOutPlan 154 = .ok (.aload_n 0, 1) := by decide +kernel
theorem dX4_carryOutPlan_155 : decode cX4_carryOutPlan 155 = .ok (.aload_n 0, 1) := by decide +kernel
theorem dX4_carryOutPlan_156 : decode cX4_carryOutPlan 156 = .ok (.getfield 33, 3) := by decide +kernel
theorem dX4_carryOutPlan_159 : decode cX4_carryOutPlan 159 = .ok (.getfield 194, 3) := by decide +kernel
theorem dX4_carryOutPlan_162 : decode cX4_carryOutPlan 162 = .ok (.putfield 47, 3) := by decide +kernel
theorem dX4_carryOutPlan_165 : decode cX4_carryOutPlan 165 = .ok (.aload_n 0, 1) := by decide +kernel
theorem dX4_carryOutPlan_166 : decode cX4_carryOutPlan 166 = .ok (.dup, 1) := by decide +kernel
theorem dX4_carryOutPlan_167 : decode cX4_carryOutPlan 167 = .ok (.getfield 51, 3) := by decide +kernel
theorem dX4_carryOutPlan_170 : decode cX4_carryOutPlan 170 = .ok (.aload_n 0, 1) := by decide +kernel
theorem dX4_carryOutPlan_171 : decode cX4_carryOutPlan 171 = .ok (.getfield 33, 3) := by decide +kernel
theorem dX4_carryOutPlan_174 : decode cX4_carryOutPlan 174 = .ok (.getfield 140, 3) := by decide +kernel
theorem dX4_carryOutPlan_177 : decode cX4_carryOutPlan 177 = .ok (.iconst 4, 1) := by decide +kernel
theorem dX4_carryOutPlan_178 : decode cX4_carryOutPlan 178 = .ok (.laload, 1) := by decide +kernel
theorem dX4_carryOutPlan_179 : decode cX4_carryOutPlan 179 = .ok (.ladd, 1) := by decide +kernel
theorem dX4_carryOutPlan_180 : decode cX4_carryOutPlan 180 = .ok (.putfield 51, 3) := by decide +kernel
theorem dX4_carryOutPlan_183 : decode cX4_carryOutPlan 183 = .ok (.aload_n 0, 1) := by decide +kernel
theorem dX4_carryOutPlan_184 : decode cX4_carryOutPlan 184 = .ok (.getfield 11, 3) := by decide +kernel
theorem dX4_carryOutPlan_187 : decode cX4_carryOutPlan 187 = .ok (.iload_n 1, 1) := by decide +kernel
theorem dX4_carryOutPlan_188 : decode cX4_carryOutPlan 188 = .ok (.aaload, 1) := by decide +kernel
theorem dX4_carryOutPlan_189 : decode cX4_carryOutPlan 189 = .ok (.iconst 2, 1) := by decide +kernel
theorem dX4_carryOutPlan_190 : decode cX4_carryOutPlan 190 = .ok (.putfield 127, 3) := by decide +kernel
theorem dX4_carryOutPlan_193 : decode cX4_carryOutPlan 193 = .ok (.return_, 1) := by decide +kernel
