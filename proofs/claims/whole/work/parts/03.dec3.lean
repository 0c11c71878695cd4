theorem dX5_init_0 : decode cX5_init 0 = .ok (.aload_n 0, 1) := by decide +kernel
theorem dX5_init_1 : decode cX5_init 1 = .ok (.invokespecial 1, 3) := by decide +kernel
theorem dX5_init_4 : decode cX5_init 4 = .ok (.aload_n 0, 1) := by decide +kernel
theorem dX5_init_5 : decode cX5_init 5 = .ok (.bipush 8, 2) := by decide +kernel
theorem dX5_init_7 : decode cX5_init 7 = .ok (.newarray .long, 2) := by decide +kernel
theorem dX5_init_9 : decode cX5_init 9 = .ok (.putfield 7, 3) := by decide +kernel
theorem dX5_init_12 : decode cX5_init 12 = .ok (.aload_n 0, 1) := by decide +kernel
theorem dX5_init_13 : decode cX5_init 13 = .ok (.bipush 8, 2) := by decide +kernel
theorem dX5_init_15 : decode cX5_init 15 = .ok (.newarray .long, 2) := by decide +kernel
theorem dX5_init_17 : decode cX5_init 17 = .ok (.putfield 13, 3) := by decide +kernel
theorem dX5_init_20 : decode cX5_init 20 = .ok (.aload_n 0, 1) := by decide +kernel
theorem dX5_init_21 : decode cX5_init 21 = .ok (.bipush 8, 2) := by decide +kernel
theorem dX5_init_23 : decode cX5_init 23 = .ok (.newarray .int, 2) := by decide +kernel
theorem dX5_init_25 : decode cX5_init 25 = .ok (.putfield 16, 3) := by decide +kernel
theorem dX5_init_28 : decode cX5_init 28 = .ok (.aload_n 0, 1) := by decide +kernel
theorem dX5_init_29 : decode cX5_init 29 = .ok (.bipush 48, 2) := by decide +kernel
theorem dX5_init_31 : decode cX5_init 31 = .ok (.newarray .int, 2) := by decide +kernel
theorem dX5_init_33 : decode cX5_init 33 = .ok (.putfield 20, 3) := by decide +kernel
theorem dX5_init_36 : decode cX5_init 36 = .ok (.aload_n 0, 1) := by decide +kernel
theorem dX5_init_37 : decode cX5_init 37 = .ok (.bipush 48, 2) := by decide +kernel
theorem dX5_init_39 : decode cX5_init 39 = .ok (.newarray .int, 2) := by decide +kernel
theorem dX5_init_41 : decode cX5_init 41 = .ok (.putfield 23, 3) := by decide +kernel
theorem dX5_init_44 : decode cX5_init 44 = .ok (.aload_n 0, 1) := by decide +kernel
theorem dX5_init_45 : decode cX5_init 45 = .ok (.bipush 6, 2) := by decide +kernel
theorem dX5_init_47 : decode cX5_init 47 = .ok (.newarray .int, 2) := by decide +kernel
theorem dX5_init_49 : decode cX5_init 49 = .ok (.putfield 26, 3) := by decide +kernel
theorem dX5_init_52 : decode cX5_init 52 = .ok (.aload_n 0, 1) := by decide +kernel
theorem dX5_init_53 : decode cX5_init 53 = .ok (.bipush 6, 2) := by decide +kernel
theorem dX5_init_55 : decode cX5_init 55 = .ok (.newarray .int, 2) := by decide +kernel
theorem dX5_init_57 : decode cX5_init 57 = .ok (.putfield 29, 3) := by decide +kernel
theorem dX5_init_60 : decode cX5_init 60 = .ok (.aload_n 0, 1) := by decide +kernel
theorem dX5_init_61 : decode cX5_init 61 = .ok (.bipush 6, 2) := by decide +kernel
theorem dX5_init_63 : decode cX5_init 63 = .ok (.newarray .int, 2) := by decide +kernel
theorem dX5_init_65 : decode cX5_init 65 = .ok (.putfield 32, 3) := by decide +kernel
theorem dX5_init_68 : decode cX5_init 68 = .ok (.aload_n 0, 1) := by decide +kernel
theorem dX5_init_69 : decode cX5_init 69 = .ok (.bipush 48, 2) := by decide +kernel
theorem dX5_init_71 : decode cX5_init 71 = .ok (.newarray .int, 2) := by decide +kernel
theorem dX5_init_73 : decode cX5_init 73 = .ok (.putfield 35, 3) := by decide +kernel
theorem dX5_init_76 : decode cX5_init 76 = .ok (.aload_n 0, 1) := by decide +kernel
theorem dX5_init_77 : decode cX5_init 77 = .ok (.iconst 5, 1) := by decide +kernel
theorem dX5_init_78 : decode cX5_init 78 = .ok (.newarray .long, 2) := by decide +kernel
theorem dX5_init_80 : decode cX5_init 80 = .ok (.putfield 38, 3) := by decide +kernel
theorem dX5_init_83 : decode cX5_init 83 = .ok (.aload_n 0, 1) := by decide +kernel
theorem dX5_init_84 : decode cX5_init 84 = .ok (.bipush 8, 2) := by decide +kernel
theorem dX5_init_86 : decode cX5_init 86 = .ok (.newarray .long, 2) := by decide +kernel
theorem dX5_init_88 : decode cX5_init 88 = .ok (.putfield 41, 3) := by decide +kernel
theorem dX5_init_91 : decode cX5_init 91 = .ok (.aload_n 0, 1) := by decide +kernel
theorem dX5_init_92 : decode cX5_init 92 = .ok (.bipush 8, 2) := by decide +kernel
theorem dX5_init_94 : decode cX5_init 94 = .ok (.newarray .long, 2) := by decide +kernel
theorem dX5_init_96 : decode cX5_init 96 = .ok (.putfield 44, 3) := by decide +kernel
theorem dX5_init_99 : decode cX5_init 99 = .ok (.aload_n 0, 1) := by decide +kernel
theorem dX5_init_100 : decode cX5_init 100 = .ok (.bipush 48, 2) := by decide +kernel
theorem dX5_init_102 : decode cX5_init 102 = .ok (.newarray .int, 2) := by decide +kernel
theorem dX5_init_104 : decode cX5_init 104 = .ok (.putfield 47, 3) := by decide +kernel
theorem dX5_init_107 : decode cX5_init 107 = .ok (.aload_n 0, 1) := by decide +kernel
theorem dX5_init_108 : decode cX5_init 108 = .ok (.iconst 5, 1) := by decide +kernel
theorem dX5_init_109 : decode cX5_init 109 = .ok (.newarray .long, 2) := by decide +kernel
theorem dX5_init_111 : decode cX5_init 111 = .ok (.putfield 50, 3) := by decide +kernel
theorem dX5_init_114 : decode cX5_init 114 = .ok (.aload_n 0, 1) := by decide +kernel
theorem dX5_init_115 : decode cX5_init 115 = .ok (.bipush 8, 2) := by decide +kernel
theorem dX5_init_117 : decode cX5_init 117 = .ok (.newarray .long, 2) := by decide +kernel
theorem dX5_init_119 : decode cX5_init 119 = .ok (.putfield 53, 3) := by decide +kernel
theorem dX5_init_122 : decode cX5_init 122 = .ok (.aload_n 0, 1) := by decide +kernel
theorem dX5_init_123 : decode cX5_init 123 = .ok (.bipush 8, 2) := by decide +kernel
theorem dX5_init_125 : decode cX5_init 125 = .ok (.newarray .long, 2) := by decide +kernel
theorem dX5_init_127 : decode cX5_init 127 = .ok (.putfield 56, 3) := by decide +kernel
theorem dX5_init_130 : decode cX5_init 130 = .ok (.aload_n 0, 1) := by decide +kernel
theorem dX5_init_131 : decode cX5_init 131 = .ok (.bipush 8, 2) := by decide +kernel
theorem dX5_init_133 : decode cX5_init 133 = .ok (.newarray .long, 2) := by decide +kernel
theorem dX5_init_135 : decode cX5_init 135 = .ok (.putfield 59, 3) := by decide +kernel
theorem dX5_init_138 : decode cX5_init 138 = .ok (.return_, 1) := by decide +kernel
theorem dX5_thrown_0 : decode cX5_thrown 0 = .ok (.aload_n 0, 1) := by decide +kernel
theorem dX5_thrown_1 : decode cX5_thrown 1 = .ok (.getfield 62, 3) := by decide +kernel
theorem dX5_thrown_4 : decode cX5_thrown 4 = .ok (.ireturn, 1) := by decide +kernel
theorem dX5_within_0 : decode cX5_within 0 = .ok (.lload_n 0, 1) := by decide +kernel
theorem dX5_within_1 : decode cX5_within 1 = .ok (.lload_n 2, 1) := by decide +kernel
theorem dX5_within_2 : decode cX5_within 2 = .ok (.lcmp, 1) := by decide +kernel
theorem dX5_within_3 : decode cX5_within 3 = .ok (.ifCond .lt 14, 3) := by decide +kernel
theorem dX5_within_6 : decode cX5_within 6 = .ok (.lload_n 0, 1) := by decide +kernel
theorem dX5_within_7 : decode cX5_within 7 = .ok (.lload 4, 2) := by decide +kernel
theorem dX5_within_9 : decode cX5_within 9 = .ok (.lcmp, 1) := by decide +kernel
theorem dX5_within_10 : decode cX5_within 10 = .ok (.ifCond .gt 7, 3) := by decide +kernel
theorem dX5_within_13 : decode cX5_within 13 = .ok (.iconst 1, 1) := by decide +kernel
theorem dX5_within_14 : decode cX5_within 14 = .ok (.goto 4, 3) := by decide +kernel
theorem dX5_within_17 : decode cX5_within 17 = .ok (.iconst 0, 1) := by decide +kernel
theorem dX5_within_18 : decode cX5_within 18 = .ok (.ireturn, 1) := by decide +kernel
theorem dX5_isMember_0 : decode cX5_isMember 0 = .ok (.iload_n 1, 1) := by decide +kernel
theorem dX5_isMember_1 : decode cX5_isMember 1 = .ok (.ifCond .lt 15, 3) := by decide +kernel
theorem dX5_isMember_4 : decode cX5_isMember 4 = .ok (.iload_n 1, 1) := by decide +kernel
theorem dX5_isMember_5 : decode cX5_isMember 5 = .ok (.aload_n 0, 1) := by decide +kernel
theorem dX5_isMember_6 : decode cX5_isMember 6 = .ok (.getfield 66, 3) := by decide +kernel
theorem dX5_isMember_9 : decode cX5_isMember 9 = .ok (.if_icmp .ge 7, 3) := by decide +kernel
theorem dX5_isMember_12 : decode cX5_isMember 12 = .ok (.iconst 1, 1) := by decide +kernel
theorem dX5_isMember_13 : decode cX5_isMember 13 = .ok (.goto 4, 3) := by decide +kernel
theorem dX5_isMember_16 : decode cX5_isMember 16 = .ok (.iconst 0, 1) := by decide +kernel
theorem dX5_isMember_17 : decode cX5_isMember 17 = .ok (.ireturn, 1) := by decide +kernel
theorem dX5_isInstrument_0 : decode cX5_isInstrument 0 = .ok (.iload_n 1, 1) := by decide +kernel
theorem dX5_isInstrument_1 : decode cX5_isInstrument 1 = .ok (.ifCond .lt 15, 3) := by decide +kernel
theorem dX5_isInstrument_4 : decode cX5_isInstrument 4 = .ok (.iload_n 1, 1) := by decide +kernel
theorem dX5_isInstrument_5 : decode cX5_isInstrument 5 = .ok (.aload_n 0, 1) := by decide +kernel
theorem dX5_isInstrument_6 : decode cX5_isInstrument 6 = .ok (.getfield 69, 3) := by decide +kernel
theorem dX5_isInstrument_9 : decode cX5_isInstrument 9 = .ok (.if_icmp .ge 7, 3) := by decide +kernel
theorem dX5_isInstrument_12 : decode cX5_isInstrument 12 = .ok (.iconst 1, 1) := by decide +kernel
theorem dX5_isInstrument_13 : decode cX5_isInstrument 13 = .ok (.goto 4, 3) := by decide +kernel
theorem dX5_isInstrument_16 : decode cX5_isInstrument 16 = .ok (.iconst 0, 1) := by decide +kernel
theorem dX5_isInstrument_17 : decode cX5_isInstrument 17 = .ok (.ireturn, 1) := by decide +kernel
theorem dX5_isFar_0 : decode cX5_isFar 0 = .ok (.lload_n 0, 1) := by decide +kernel
theorem dX5_isFar_1 : decode cX5_isFar 1 = .ok (.ldc2_w 72, 3) := by decide +kernel
theorem dX5_isFar_4 : decode cX5_isFar 4 = .ok (.lcmp, 1) := by decide +kernel
theorem dX5_isFar_5 : decode cX5_isFar 5 = .ok (.ifCond .gt 11, 3) := by decide +kernel
theorem dX5_isFar_8 : decode cX5_isFar 8 = .ok (.lload_n 0, 1) := by decide +kernel
theorem dX5_isFar_9 : decode cX5_isFar 9 = .ok (.ldc2_w 74, 3) := by decide +kernel
theorem dX5_isFar_12 : decode cX5_isFar 12 = .ok (.lcmp, 1) := by decide +kernel
theorem dX5_isFar_13 : decode cX5_isFar 13 = .ok (.ifCond .ge 7, 3) := by decide +kernel
theorem dX5_isFar_16 : decode cX5_isFar 16 = .ok (.iconst 1, 1) := by decide +kernel
theorem dX5_isFar_17 : decode cX5_isFar 17 = .ok (.goto 4, 3) := by decide +kernel
theorem dX5_isFar_20 : decode cX5_isFar 20 = .ok (.iconst 0, 1) := by decide +kernel
theorem dX5_isFar_21 : decode cX5_isFar 21 = .ok (.ireturn, 1) := by decide +kernel
theorem dX5_member_0 : decode cX5_member 0 = .ok (.aload_n 0, 1) := by decide +kernel
theorem dX5_member_1 : decode cX5_member 1 = .ok (.lload_n 1, 1) := by decide +kernel
theorem dX5_member_2 : decode cX5_member 2 = .ok (.lconst 0, 1) := by decide +kernel
theorem dX5_member_3 : decode cX5_member 3 = .ok (.ldc2_w 76, 3) := by decide +kernel
theorem dX5_member_6 : decode cX5_member 6 = .ok (.invokestatic 78, 3) := by decide +kernel
theorem dX5_member_9 : decode cX5_member 9 = .ok (.ifCond .eq 7, 3) := by decide +kernel
theorem dX5_member_12 : decode cX5_member 12 = .ok (.iconst 0, 1) := by decide +kernel
theorem dX5_member_13 : decode cX5_member 13 = .ok (.goto 4, 3) := by decide +kernel
theorem dX5_member_16 : decode cX5_member 16 = .ok (.iconst 1, 1) := by decide +kernel
theorem dX5_member_17 : decode cX5_member 17 = .ok (.putfield 62, 3) := by decide +kernel
theorem dX5_member_20 : decode cX5_member 20 = .ok (.aload_n 0, 1) := by decide +kernel
theorem dX5_member_21 : decode cX5_member 21 = .ok (.getfield 62, 3) := by decide +kernel
theorem dX5_member_24 : decode cX5_member 24 = .ok (.ifCond .le 5, 3) := by decide +kernel
theorem dX5_member_27 : decode cX5_member 27 = .ok (.iconst 0, 1) := by decide +kernel
theorem dX5_member_28 : decode cX5_member 28 = .ok (.ireturn, 1) := by decide +kernel
theorem dX5_member_29 : decode cX5_member 29 = .ok (.aload_n 0, 1) := by decide +kernel
theorem dX5_member_30 : decode cX5_member 30 = .ok (.getfield 66, 3) := by decide +kernel
theorem dX5_member_33 : decode cX5_member 33 = .ok (.bipush 8, 2) := by decide +kernel
theorem dX5_member_35 : decode cX5_member 35 = .ok (.if_icmp .ne 5, 3) := by decide +kernel
theorem dX5_member_38 : decode cX5_member 38 = .ok (.iconst (-1), 1) := by decide +kernel
theorem dX5_member_39 : decode cX5_member 39 = .ok (.ireturn, 1) := by decide +kernel
theorem dX5_member_40 : decode cX5_member 40 = .ok (.aload_n 0, 1) := by decide +kernel
theorem dX5_member_41 : decode cX5_member 41 = .ok (.getfield 13, 3) := by decide +kernel
theorem dX5_member_44 : decode cX5_member 44 = .ok (.aload_n 0, 1) := by decide +kernel
theorem dX5_member_45 : decode cX5_member 45 = .ok (.getfield 66, 3) := by decide +kernel
theorem dX5_member_48 : decode cX5_member 48 = .ok (.lload_n 1, 1) := by decide +kernel
theorem dX5_member_49 : decode cX5_member 49 = .ok (.lastore, 1) := by decide +kernel
theorem dX5_member_50 : decode cX5_member 50 = .ok (.aload_n 0, 1) := by decide +kernel
theorem dX5_member_51 : decode cX5_member 51 = .ok (.dup, 1) := by decide +kernel
theorem dX5_member_52 : decode cX5_member 52 = .ok (.getfield 66, 3) := by decide +kernel
theorem dX5_member_55 : decode cX5_member 55 = .ok (.iconst 1, 1) := by decide +kernel
theorem dX5_member_56 : decode cX5_member 56 = .ok (.iadd, 1) := by decide +kernel
theorem dX5_member_57 : decode cX5_member 57 = .ok (.putfield 66, 3) := by decide +kernel
theorem dX5_member_60 : decode cX5_member 60 = .ok (.aload_n 0, 1) := by decide +kernel
theorem dX5_member_61 : decode cX5_member 61 = .ok (.getfield 66, 3) := by decide +kernel
theorem dX5_member_64 : decode cX5_member 64 = .ok (.iconst 1, 1) := by decide +kernel
theorem dX5_member_65 : decode cX5_member 65 = .ok (.isub, 1) := by decide +kernel
theorem dX5_member_66 : decode cX5_member 66 = .ok (.ireturn, 1) := by decide +kernel
theorem dX5_instrument_0 : decode cX5_instrument 0 = .ok (.aload_n 0, 1) := by decide +kernel
theorem dX5_instrument_1 : decode cX5_instrument 1 = .ok (.iload_n 1, 1) := by decide +kernel
theorem dX5_instrument_2 : decode cX5_instrument 2 = .ok (.i2l, 1) := by decide +kernel
theorem dX5_instrument_3 : decode cX5_instrument 3 = .ok (.lconst 0, 1) := by decide +kernel
theorem dX5_instrument_4 : decode cX5_instrument 4 = .ok (.ldc2_w 82, 3) := by decide +kernel
theorem dX5_instrument_7 : decode cX5_instrument 7 = .ok (.invokestatic 78, 3) := by decide +kernel
theorem dX5_instrument_10 : decode cX5_instrument 10 = .ok (.ifCond .eq 31, 3) := by decide +kernel
theorem dX5_instrument_13 : decode cX5_instrument 13 = .ok (.iload_n 2, 1) := by decide +kernel
theorem dX5_instrument_14 : decode cX5_instrument 14 = .ok (.i2l, 1) := by decide +kernel
theorem dX5_instrument_15 : decode cX5_instrument 15 = .ok (.lconst 0, 1) := by decide +kernel
theorem dX5_instrument_16 : decode cX5_instrument 16 = .ok (.ldc2_w 82, 3) := by decide +kernel
theorem dX5_instrument_19 : decode cX5_instrument 19 = .ok (.invokestatic 78, 3) := by decide +kernel
theorem dX5_instrument_22 : decode cX5_instrument 22 = .ok (.ifCond .eq 19, 3) := by decide +kernel
theorem dX5_instrument_25 : decode cX5_instrument 25 = .ok (.iload_n 3, 1) := by decide +kernel
theorem dX5_instrument_26 : decode cX5_instrument 26 = .ok (.i2l, 1) := by decide +kernel
theorem dX5_instrument_27 : decode cX5_instrument 27 = .ok (.lconst 0, 1) := by decide +kernel
theorem dX5_instrument_28 : decode cX5_instrument 28 = .ok (.ldc2_w 82, 3) := by decide +kernel
theorem dX5_instrument_31 : decode cX5_instrument 31 = .ok (.invokestatic 78, 3) := by decide +kernel
theorem dX5_instrument_34 : decode cX5_instrument 34 = .ok (.ifCond .eq 7, 3) := by decide +kernel
theorem dX5_instrument_37 : decode cX5_instrument 37 = .ok (.iconst 0, 1) := by decide +kernel
theorem dX5_instrument_38 : decode cX5_instrument 38 = .ok (.goto 4, 3) := by decide +kernel
theorem dX5_instrument_41 : decode cX5_instrument 41 = .ok (.iconst 1, 1) := by decide +kernel
theorem dX5_instrument_42 : decode cX5_instrument 42 = .ok (.putfield 62, 3) := by decide +kernel
theorem dX5_instrument_45 : decode cX5_instrument 45 = .ok (.aload_n 0, 1) := by decide +kernel
theorem dX5_instrument_46 : decode cX5_instrument 46 = .ok (.getfield 62, 3) := by decide +kernel
theorem dX5_instrument_49 : decode cX5_instrument 49 = .ok (.ifCond .le 5, 3) := by decide +kernel
theorem dX5_instrument_52 : decode cX5_instrument 52 = .ok (.iconst 0, 1) := by decide +kernel
theorem dX5_instrument_53 : decode cX5_instrument 53 = .ok (.ireturn, 1) := by decide +kernel
theorem dX5_instrument_54 : decode cX5_instrument 54 = .ok (.aload_n 0, 1) := by decide +kernel
theorem dX5_instrument_55 : decode cX5_instrument 55 = .ok (.getfield 69, 3) := by decide +kernel
theorem dX5_instrument_58 : decode cX5_instrument 58 = .ok (.bipush 6, 2) := by decide +kernel
theorem dX5_instrument_60 : decode cX5_instrument 60 = .ok (.if_icmp .ne 5, 3) := by decide +kernel
theorem dX5_instrument_63 : decode cX5_instrument 63 = .ok (.iconst (-1), 1) := by decide +kernel
theorem dX5_instrument_64 : decode cX5_instrument 64 = .ok (.ireturn, 1) := by decide +kernel
theorem dX5_instrument_65 : decode cX5_instrument 65 = .ok (.aload_n 0, 1) := by decide +kernel
theorem dX5_instrument_66 : decode cX5_instrument 66 = .ok (.getfield 26, 3) := by decide +kernel
theorem dX5_instrument_69 : decode cX5_instrument 69 = .ok (.aload_n 0, 1) := by decide +kernel
theorem dX5_instrument_70 : decode cX5_instrument 70 = .ok (.getfield 69, 3) := by decide +kernel
theorem dX5_instrument_73 : decode cX5_instrument 73 = .ok (.iload_n 1, 1) := by decide +kernel
theorem dX5_instrument_74 : decode cX5_instrument 74 = .ok (.iastore, 1) := by decide +kernel
theorem dX5_instrument_75 : decode cX5_instrument 75 = .ok (.aload_n 0, 1) := by decide +kernel
theorem dX5_instrument_76 : decode cX5_instrument 76 = .ok (.getfield 29, 3) := by decide +kernel
theorem dX5_instrument_79 : decode cX5_instrument 79 = .ok (.aload_n 0, 1) := by decide +kernel
theorem dX5_instrument_80 : decode cX5_instrument 80 = .ok (.getfield 69, 3) := by decide +kernel
theorem dX5_instrument_83 : decode cX5_instrument 83 = .ok (.iload_n 2, 1) := by decide +kernel
theorem dX5_instrument_84 : decode cX5_instrument 84 = .ok (.iastore, 1) := by decide +kernel
theorem dX5_instrument_85 : decode cX5_instrument 85 = .ok (.aload_n 0, 1) := by decide +kernel
theorem dX5_instrument_86 : decode cX5_instrument 86 = .ok (.getfield 32, 3) := by decide +kernel
theorem dX5_instrument_89 : decode cX5_instrument 89 = .ok (.aload_n 0, 1) := by decide +kernel
theorem dX5_instrument_90 : decode cX5_instrument 90 = .ok (.getfield 69, 3) := by decide +kernel
theorem dX5_instrument_93 : decode cX5_instrument 93 = .ok (.iload_n 3, 1) := by decide +kernel
theorem dX5_instrument_94 : decode cX5_instrument 94 = .ok (.iastore, 1) := by decide +kernel
theorem dX5_instrument_95 : decode cX5_instrument 95 = .ok (.aload_n 0, 1) := by decide +kernel
theorem dX5_instrument_96 : decode cX5_instrument 96 = .ok (.dup, 1) := by decide +kernel
theorem dX5_instrument_97 : decode cX5_instrument 97 = .ok (.getfield 69, 3) := by decide +kernel
theorem dX5_instrument_100 : decode cX5_instrument 100 = .ok (.iconst 1, 1) := by decide +kernel
theorem dX5_instrument_101 : decode cX5_instrument 101 = .ok (.iadd, 1) := by decide +kernel
theorem dX5_instrument_102 : decode cX5_instrument 102 = .ok (.putfield 69, 3) := by decide +kernel
theorem dX5_instrument_105 : decode cX5_instrument 105 = .ok (.aload_n 0, 1) := by decide +kernel
theorem dX5_instrument_106 : decode cX5_instrument 106 = .ok (.getfield 69, 3) := by decide +kernel
theorem dX5_instrument_109 : decode cX5_instrument 109 = .ok (.iconst 1, 1) := by decide +kernel
theorem dX5_instrument_110 : decode cX5_instrument 110 = .ok (.isub, 1) := by decide +kernel
theorem dX5_instrument_111 : decode cX5_instrument 111 = .ok (.ireturn, 1) := by decide +kernel
theorem dX5_capital_0 : decode cX5_capital 0 = .ok (.aload_n 0, 1) := by decide +kernel
theorem dX5_capital_1 : decode cX5_capital 1 = .ok (.lload_n 1, 1) := by decide +kernel
theorem dX5_capital_2 : decode cX5_capital 2 = .ok (.lconst 0, 1) := by decide +kernel
theorem dX5_capital_3 : decode cX5_capital 3 = .ok (.ldc2_w 76, 3) := by decide +kernel
theorem dX5_capital_6 : decode cX5_capital 6 = .ok (.invokestatic 78, 3) := by decide +kernel
theorem dX5_capital_9 : decode cX5_capital 9 = .ok (.ifCond .eq 7, 3) := by decide +kernel
theorem dX5_capital_12 : decode cX5_capital 12 = .ok (.iconst 0, 1) := by decide +kernel
theorem dX5_capital_13 : decode cX5_capital 13 = .ok (.goto 4, 3) := by decide +kernel
theorem dX5_capital_16 : decode cX5_capital 16 = .ok (.iconst 1, 1) := by decide +kernel
theorem dX5_capital_17 : decode cX5_capital 17 = .ok (.putfield 62, 3) := by decide +kernel
theorem dX5_capital_20 : decode cX5_capital 20 = .ok (.aload_n 0, 1) := by decide +kernel
theorem dX5_capital_21 : decode cX5_capital 21 = .ok (.getfield 62, 3) := by decide +kernel
theorem dX5_capital_24 : decode cX5_capital 24 = .ok (.ifCond .le 5, 3) := by decide +kernel
theorem dX5_capital_27 : decode cX5_capital 27 = .ok (.lconst 0, 1) := by decide +kernel
theorem dX5_capital_28 : decode cX5_capital 28 = .ok (.lreturn, 1) := by decide +kernel
theorem dX5_capital_29 : decode cX5_capital 29 = .ok (.aload_n 0, 1) := by decide +kernel
theorem dX5_capital_30 : decode cX5_capital 30 = .ok (.getfield 84, 3) := by decide +kernel
theorem dX5_capital_33 : decode cX5_capital 33 = .ok (.lload_n 1, 1) := by decide +kernel
theorem dX5_capital_34 : decode cX5_capital 34 = .ok (.ladd, 1) := by decide +kernel
theorem dX5_capital_35 : decode cX5_capital 35 = .ok (.invokestatic 88, 3) := by decide +kernel
theorem dX5_capital_38 : decode cX5_capital 38 = .ok (.ifCond .eq 7, 3) := by decide +kernel
theorem dX5_capital_41 : decode cX5_capital 41 = .ok (.ldc2_w 92, 3) := by decide +kernel
theorem dX5_capital_44 : decode cX5_capital 44 = .ok (.lreturn, 1) := by decide +kernel
theorem dX5_capital_45 : decode cX5_capital 45 = .ok (.aload_n 0, 1) := by decide +kernel
theorem dX5_capital_46 : decode cX5_capital 46 = .ok (.aload_n 0, 1) := by decide +kernel
theorem dX5_capital_47 : decode cX5_capital 47 = .ok (.getfield 84, 3) := by decide +kernel
theorem dX5_capital_50 : decode cX5_capital 50 = .ok (.lload_n 1, 1) := by decide +kernel
theorem dX5_capital_51 : decode cX5_capital 51 = .ok (.ladd, 1) := by decide +kernel
theorem dX5_capital_52 : decode cX5_capital 52 = .ok (.putfield 84, 3) := by decide +kernel
theorem dX5_capital_55 : decode cX5_capital 55 = .ok (.aload_n 0, 1) := by decide +kernel
theorem dX5_capital_56 : decode cX5_capital 56 = .ok (.getfield 84, 3) := by decide +kernel
theorem dX5_capital_59 : decode cX5_capital 59 = .ok (.lreturn, 1) := by decide +kernel
theorem dX5_move_0 : decode cX5_move 0 = .ok (.aload_n 0, 1) := by decide +kernel
theorem dX5_move_1 : decode cX5_move 1 = .ok (.iload_n 1, 1) := by decide +kernel
theorem dX5_move_2 : decode cX5_move 2 = .ok (.ifCond .lt 31, 3) := by decide +kernel
theorem dX5_move_5 : decode cX5_move 5 = .ok (.iload_n 1, 1) := by decide +kernel
theorem dX5_move_6 : decode cX5_move 6 = .ok (.bipush 7, 2) := by decide +kernel
theorem dX5_move_8 : decode cX5_move 8 = .ok (.if_icmp .gt 25, 3) := by decide +kernel
theorem dX5_move_11 : decode cX5_move 11 = .ok (.aload_n 0, 1) := by decide +kernel
theorem dX5_move_12 : decode cX5_move 12 = .ok (.iload_n 2, 1) := by decide +kernel
theorem dX5_move_13 : decode cX5_move 13 = .ok (.invokevirtual 94, 3) := by decide +kernel
theorem dX5_move_16 : decode cX5_move 16 = .ok (.ifCond .eq 17, 3) := by decide +kernel
theorem dX5_move_19 : decode cX5_move 19 = .ok (.iload_n 3, 1) := by decide +kernel
theorem dX5_move_20 : decode cX5_move 20 = .ok (.i2l, 1) := by decide +kernel
theorem dX5_move_21 : decode cX5_move 21 = .ok (.ldc2_w 98, 3) := by decide +kernel
theorem dX5_move_24 : decode cX5_move 24 = .ok (.ldc2_w 82, 3) := by decide +kernel
theorem dX5_move_27 : decode cX5_move 27 = .ok (.invokestatic 78, 3) := by decide +kernel
theorem dX5_move_30 : decode cX5_move 30 = .ok (.ifCond .ne 7, 3) := by decide +kernel
theorem dX5_move_33 : decode cX5_move 33 = .ok (.iconst 1, 1) := by decide +kernel
theorem dX5_move_34 : decode cX5_move 34 = .ok (.goto 4, 3) := by decide +kernel
theorem dX5_move_37 : decode cX5_move 37 = .ok (.iconst 0, 1) := by decide +kernel
theorem dX5_move_38 : decode cX5_move 38 = .ok (.putfield 62, 3) := by decide +kernel
theorem dX5_move_41 : decode cX5_move 41 = .ok (.aload_n 0, 1) := by decide +kernel
theorem dX5_move_42 : decode cX5_move 42 = .ok (.getfield 62, 3) := by decide +kernel
theorem dX5_move_45 : decode cX5_move 45 = .ok (.ifCond .ne 15, 3) := by decide +kernel
theorem dX5_move_48 : decode cX5_move 48 = .ok (.aload_n 0, 1) := by decide +kernel
theorem dX5_move_49 : decode cX5_move 49 = .ok (.getfield 35, 3) := by decide +kernel
theorem dX5_move_52 : decode cX5_move 52 = .ok (.bipush 6, 2) := by decide +kernel
theorem dX5_move_54 : decode cX5_move 54 = .ok (.iload_n 1, 1) := by decide +kernel
theorem dX5_move_55 : decode cX5_move 55 = .ok (.imul, 1) := by decide +kernel
theorem dX5_move_56 : decode cX5_move 56 = .ok (.iload_n 2, 1) := by decide +kernel
theorem dX5_move_57 : decode cX5_move 57 = .ok (.iadd, 1) := by decide +kernel
theorem dX5_move_58 : decode cX5_move 58 = .ok (.iload_n 3, 1) := by decide +kernel
theorem dX5_move_59 : decode cX5_move 59 = .ok (.iastore, 1) := by decide +kernel
theorem dX5_move_60 : decode cX5_move 60 = .ok (.return_, 1) := by decide +kernel
theorem dX5_bid_0 : decode cX5_bid 0 = .ok (.aload_n 0, 1) := by decide +kernel
theorem dX5_bid_1 : decode cX5_bid 1 = .ok (.aload_n 0, 1) := by decide +kernel
theorem dX5_bid_2 : decode cX5_bid 2 = .ok (.iload_n 1, 1) := by decide +kernel
theorem dX5_bid_3 : decode cX5_bid 3 = .ok (.invokevirtual 100, 3) := by decide +kernel
theorem dX5_bid_6 : decode cX5_bid 6 = .ok (.ifCond .eq 23, 3) := by decide +kernel
theorem dX5_bid_9 : decode cX5_bid 9 = .ok (.aload_n 0, 1) := by decide +kernel
theorem dX5_bid_10 : decode cX5_bid 10 = .ok (.iload_n 2, 1) := by decide +kernel
theorem dX5_bid_11 : decode cX5_bid 11 = .ok (.invokevirtual 94, 3) := by decide +kernel
theorem dX5_bid_14 : decode cX5_bid 14 = .ok (.ifCond .eq 15, 3) := by decide +kernel
theorem dX5_bid_17 : decode cX5_bid 17 = .ok (.iload_n 3, 1) := by decide +kernel
theorem dX5_bid_18 : decode cX5_bid 18 = .ok (.i2l, 1) := by decide +kernel
theorem dX5_bid_19 : decode cX5_bid 19 = .ok (.lconst 0, 1) := by decide +kernel
theorem dX5_bid_20 : decode cX5_bid 20 = .ok (.ldc2_w 82, 3) := by decide +kernel
theorem dX5_bid_23 : decode cX5_bid 23 = .ok (.invokestatic 78, 3) := by decide +kernel
theorem dX5_bid_26 : decode cX5_bid 26 = .ok (.ifCond .ne 7, 3) := by decide +kernel
theorem dX5_bid_29 : decode cX5_bid 29 = .ok (.iconst 1, 1) := by decide +kernel
theorem dX5_bid_30 : decode cX5_bid 30 = .ok (.goto 4, 3) := by decide +kernel
theorem dX5_bid_33 : decode cX5_bid 33 = .ok (.iconst 0, 1) := by decide +kernel
theorem dX5_bid_34 : decode cX5_bid 34 = .ok (.putfield 62, 3) := by decide +kernel
theorem dX5_bid_37 : decode cX5_bid 37 = .ok (.aload_n 0, 1) := by decide +kernel
theorem dX5_bid_38 : decode cX5_bid 38 = .ok (.getfield 62, 3) := by decide +kernel
theorem dX5_bid_41 : decode cX5_bid 41 = .ok (.ifCond .ne 15, 3) := by decide +kernel
theorem dX5_bid_44 : decode cX5_bid 44 = .ok (.aload_n 0, 1) := by decide +kernel
theorem dX5_bid_45 : decode cX5_bid 45 = .ok (.getfield 23, 3) := by decide +kernel
theorem dX5_bid_48 : decode cX5_bid 48 = .ok (.bipush 6, 2) := by decide +kernel
theorem dX5_bid_50 : decode cX5_bid 50 = .ok (.iload_n 1, 1) := by decide +kernel
theorem dX5_bid_51 : decode cX5_bid 51 = .ok (.imul, 1) := by decide +kernel
theorem dX5_bid_52 : decode cX5_bid 52 = .ok (.iload_n 2, 1) := by decide +kernel
theorem dX5_bid_53 : decode cX5_bid 53 = .ok (.iadd, 1) := by decide +kernel
theorem dX5_bid_54 : decode cX5_bid 54 = .ok (.iload_n 3, 1) := by decide +kernel
theorem dX5_bid_55 : decode cX5_bid 55 = .ok (.iastore, 1) := by decide +kernel
theorem dX5_bid_56 : decode cX5_bid 56 = .ok (.return_, 1) := by decide +kernel
theorem dX5_deposit_0 : decode cX5_deposit 0 = .ok (.aload_n 0, 1) := by decide +kernel
theorem dX5_deposit_1 : decode cX5_deposit 1 = .ok (.aload_n 0, 1) := by decide +kernel
theorem dX5_deposit_2 : decode cX5_deposit 2 = .ok (.iload_n 1, 1) := by decide +kernel
theorem dX5_deposit_3 : decode cX5_deposit 3 = .ok (.invokevirtual 100, 3) := by decide +kernel
theorem dX5_deposit_6 : decode cX5_deposit 6 = .ok (.ifCond .eq 14, 3) := by decide +kernel
theorem dX5_deposit_9 : decode cX5_deposit 9 = .ok (.lload_n 2, 1) := by decide +kernel
theorem dX5_deposit_10 : decode cX5_deposit 10 = .ok (.lconst 1, 1) := by decide +kernel
theorem dX5_deposit_11 : decode cX5_deposit 11 = .ok (.ldc2_w 76, 3) := by decide +kernel
theorem dX5_deposit_14 : decode cX5_deposit 14 = .ok (.invokestatic 78, 3) := by decide +kernel
theorem dX5_deposit_17 : decode cX5_deposit 17 = .ok (.ifCond .ne 7, 3) := by decide +kernel
theorem dX5_deposit_20 : decode cX5_deposit 20 = .ok (.iconst 1, 1) := by decide +kernel
theorem dX5_deposit_21 : decode cX5_deposit 21 = .ok (.goto 17, 3) := by decide +kernel
theorem dX5_deposit_24 : decode cX5_deposit 24 = .ok (.aload_n 0, 1) := by decide +kernel
theorem dX5_deposit_25 : decode cX5_deposit 25 = .ok (.getfield 16, 3) := by decide +kernel
theorem dX5_deposit_28 : decode cX5_deposit 28 = .ok (.iload_n 1, 1) := by decide +kernel
theorem dX5_deposit_29 : decode cX5_deposit 29 = .ok (.iaload, 1) := by decide +kernel
theorem dX5_deposit_30 : decode cX5_deposit 30 = .ok (.ifCond .eq 7, 3) := by decide +kernel
theorem dX5_deposit_33 : decode cX5_deposit 33 = .ok (.iconst 2, 1) := by decide +kernel
theorem dX5_deposit_34 : decode cX5_deposit 34 = .ok (.goto 4, 3) := by decide +kernel
theorem dX5_deposit_37 : decode cX5_deposit 37 = .ok (.iconst 0, 1) := by decide +kernel
theorem dX5_deposit_38 : decode cX5_deposit 38 = .ok (.putfield 62, 3) := by decide +kernel
theorem dX5_deposit_41 : decode cX5_deposit 41 = .ok (.aload_n 0, 1) := by decide +kernel
theorem dX5_deposit_42 : decode cX5_deposit 42 = .ok (.getfield 62, 3) := by decide +kernel
theorem dX5_deposit_45 : decode cX5_deposit 45 = .ok (.ifCond .le 5, 3) := by decide +kernel
theorem dX5_deposit_48 : decode cX5_deposit 48 = .ok (.lconst 0, 1) := by decide +kernel
theorem dX5_deposit_49 : decode cX5_deposit 49 = .ok (.lreturn, 1) := by decide +kernel
theorem dX5_deposit_50 : decode cX5_deposit 50 = .ok (.aload_n 0, 1) := by decide +kernel
theorem dX5_deposit_51 : decode cX5_deposit 51 = .ok (.getfield 7, 3) := by decide +kernel
theorem dX5_deposit_54 : decode cX5_deposit 54 = .ok (.iload_n 1, 1) := by decide +kernel
theorem dX5_deposit_55 : decode cX5_deposit 55 = .ok (.laload, 1) := by decide +kernel
theorem dX5_deposit_56 : decode cX5_deposit 56 = .ok (.lload_n 2, 1) := by decide +kernel
theorem dX5_deposit_57 : decode cX5_deposit 57 = .ok (.ladd, 1) := by decide +kernel
theorem dX5_deposit_58 : decode cX5_deposit 58 = .ok (.invokestatic 88, 3) := by decide +kernel
theorem dX5_deposit_61 : decode cX5_deposit 61 = .ok (.ifCond .eq 7, 3) := by decide +kernel
theorem dX5_deposit_64 : decode cX5_deposit 64 = .ok (.ldc2_w 92, 3) := by decide +kernel
theorem dX5_deposit_67 : decode cX5_deposit 67 = .ok (.lreturn, 1) := by decide +kernel
theorem dX5_deposit_68 : decode cX5_deposit 68 = .ok (.aload_n 0, 1) := by decide +kernel
theorem dX5_deposit_69 : decode cX5_deposit 69 = .ok (.getfield 7, 3) := by decide +kernel
theorem dX5_deposit_72 : decode cX5_deposit 72 = .ok (.iload_n 1, 1) := by decide +kernel
theorem dX5_deposit_73 : decode cX5_deposit 73 = .ok (.aload_n 0, 1) := by decide +kernel
theorem dX5_deposit_74 : decode cX5_deposit 74 = .ok (.getfield 7, 3) := by decide +kernel
theorem dX5_deposit_77 : decode cX5_deposit 77 = .ok (.iload_n 1, 1) := by decide +kernel
theorem dX5_deposit_78 : decode cX5_deposit 78 = .ok (.laload, 1) := by decide +kernel
theorem dX5_deposit_79 : decode cX5_deposit 79 = .ok (.lload_n 2, 1) := by decide +kernel
theorem dX5_deposit_80 : decode cX5_deposit 80 = .ok (.ladd, 1) := by decide +kernel
theorem dX5_deposit_81 : decode cX5_deposit 81 = .ok (.lastore, 1) := by decide +kernel
theorem dX5_deposit_82 : decode cX5_deposit 82 = .ok (.aload_n 0, 1) := by decide +kernel
theorem dX5_deposit_83 : decode cX5_deposit 83 = .ok (.getfield 7, 3) := by decide +kernel
theorem dX5_deposit_86 : decode cX5_deposit 86 = .ok (.iload_n 1, 1) := by decide +kernel
theorem dX5_deposit_87 : decode cX5_deposit 87 = .ok (.laload, 1) := by decide +kernel
theorem dX5_deposit_88 : decode cX5_deposit 88 = .ok (.lreturn, 1) := by decide +kernel
theorem dX5_marginOf_0 : decode cX5_marginOf 0 = .ok (.lconst 0, 1) := by decide +kernel
theorem dX5_marginOf_1 : decode cX5_marginOf 1 = .ok (.lstore_n 2, 1) := by decide +kernel
theorem dX5_marginOf_2 : decode cX5_marginOf 2 = .ok (.iconst 0, 1) := by decide +kernel
theorem dX5_marginOf_3 : decode cX5_marginOf 3 = .ok (.istore 4, 2) := by decide +kernel
theorem dX5_marginOf_5 : decode cX5_marginOf 5 = .ok (.iload 4, 2) := by decide +kernel
theorem dX5_marginOf_7 : decode cX5_marginOf 7 = .ok (.bipush 8, 2) := by decide +kernel
theorem dX5_marginOf_9 : decode cX5_marginOf 9 = .ok (.if_icmp .ge 77, 3) := by decide +kernel
theorem dX5_marginOf_12 : decode cX5_marginOf 12 = .ok (.lconst 0, 1) := by decide +kernel
theorem dX5_marginOf_13 : decode cX5_marginOf 13 = .ok (.lstore 5, 2) := by decide +kernel
theorem dX5_marginOf_15 : decode cX5_marginOf 15 = .ok (.iconst 0, 1) := by decide +kernel
theorem dX5_marginOf_16 : decode cX5_marginOf 16 = .ok (.istore 7, 2) := by decide +kernel
theorem dX5_marginOf_18 : decode cX5_marginOf 18 = .ok (.iload 7, 2) := by decide +kernel
theorem dX5_marginOf_20 : decode cX5_marginOf 20 = .ok (.aload_n 0, 1) := by decide +kernel
theorem dX5_marginOf_21 : decode cX5_marginOf 21 = .ok (.getfield 69, 3) := by decide +kernel
theorem dX5_marginOf_24 : decode cX5_marginOf 24 = .ok (.if_icmp .ge 42, 3) := by decide +kernel
theorem dX5_marginOf_27 : decode cX5_marginOf 27 = .ok (.lload 5, 2) := by decide +kernel
theorem dX5_marginOf_29 : decode cX5_marginOf 29 = .ok (.aload_n 0, 1) := by decide +kernel
theorem dX5_marginOf_30 : decode cX5_marginOf 30 = .ok (.getfield 20, 3) := by decide +kernel
theorem dX5_marginOf_33 : decode cX5_marginOf 33 = .ok (.bipush 6, 2) := by decide +kernel
theorem dX5_marginOf_35 : decode cX5_marginOf 35 = .ok (.iload_n 1, 1) := by decide +kernel
theorem dX5_marginOf_36 : decode cX5_marginOf 36 = .ok (.imul, 1) := by decide +kernel
theorem dX5_marginOf_37 : decode cX5_marginOf 37 = .ok (.iload 7, 2) := by decide +kernel
theorem dX5_marginOf_39 : decode cX5_marginOf 39 = .ok (.iadd, 1) := by decide +kernel
theorem dX5_marginOf_40 : decode cX5_marginOf 40 = .ok (.iaload, 1) := by decide +kernel
theorem dX5_marginOf_41 : decode cX5_marginOf 41 = .ok (.i2l, 1) := by decide +kernel
theorem dX5_marginOf_42 : decode cX5_marginOf 42 = .ok (.aload_n 0, 1) := by decide +kernel
theorem dX5_marginOf_43 : decode cX5_marginOf 43 = .ok (.getfield 35, 3) := by decide +kernel
theorem dX5_marginOf_46 : decode cX5_marginOf 46 = .ok (.bipush 6, 2) := by decide +kernel
theorem dX5_marginOf_48 : decode cX5_marginOf 48 = .ok (.iload 4, 2) := by decide +kernel
theorem dX5_marginOf_50 : decode cX5_marginOf 50 = .ok (.imul, 1) := by decide +kernel
theorem dX5_marginOf_51 : decode cX5_marginOf 51 = .ok (.iload 7, 2) := by decide +kernel
theorem dX5_marginOf_53 : decode cX5_marginOf 53 = .ok (.iadd, 1) := by decide +kernel
theorem dX5_marginOf_54 : decode cX5_marginOf 54 = .ok (.iaload, 1) := by decide +kernel
theorem dX5_marginOf_55 : decode cX5_marginOf 55 = .ok (.i2l, 1) := by decide +kernel
theorem dX5_marginOf_56 : decode cX5_marginOf 56 = .ok (.lmul, 1) := by decide +kernel
theorem dX5_marginOf_57 : decode cX5_marginOf 57 = .ok (.lsub, 1) := by decide +kernel
theorem dX5_marginOf_58 : decode cX5_marginOf 58 = .ok (.lstore 5, 2) := by decide +kernel
theorem dX5_marginOf_60 : decode cX5_marginOf 60 = .ok (.iinc 7 1, 3) := by decide +kernel
theorem dX5_marginOf_63 : decode cX5_marginOf 63 = .ok (.goto (-45), 3) := by decide +kernel
theorem dX5_marginOf_66 : decode cX5_marginOf 66 = .ok (.lload 5, 2) := by decide +kernel
theorem dX5_marginOf_68 : decode cX5_marginOf 68 = .ok (.lload_n 2, 1) := by decide +kernel
theorem dX5_marginOf_69 : decode cX5_marginOf 69 = .ok (.lcmp, 1) := by decide +kernel
theorem dX5_marginOf_70 : decode cX5_marginOf 70 = .ok (.ifCond .le 8, 3) := by decide +kernel
theorem dX5_marginOf_73 : decode cX5_marginOf 73 = .ok (.lload 5, 2) := by decide +kernel
theorem dX5_marginOf_75 : decode cX5_marginOf 75 = .ok (.goto 4, 3) := by decide +kernel
theorem dX5_marginOf_78 : decode cX5_marginOf 78 = .ok (.lload_n 2, 1) := by decide +kernel
theorem dX5_marginOf_79 : decode cX5_marginOf 79 = .ok (.lstore_n 2, 1) := by decide +kernel
theorem dX5_marginOf_80 : decode cX5_marginOf 80 = .ok (.iinc 4 1, 3) := by decide +kernel
theorem dX5_marginOf_83 : decode cX5_marginOf 83 = .ok (.goto (-78), 3) := by decide +kernel
theorem dX5_marginOf_86 : decode cX5_marginOf 86 = .ok (.iconst 0, 1) := by decide +kernel
theorem dX5_marginOf_87 : decode cX5_marginOf 87 = .ok (.istore 4, 2) := by decide +kernel
theorem dX5_marginOf_89 : decode cX5_marginOf 89 = .ok (.iload 4, 2) := by decide +kernel
theorem dX5_marginOf_91 : decode cX5_marginOf 91 = .ok (.aload_n 0, 1) := by decide +kernel
theorem dX5_marginOf_92 : decode cX5_marginOf 92 = .ok (.getfield 69, 3) := by decide +kernel
theorem dX5_marginOf_95 : decode cX5_marginOf 95 = .ok (.if_icmp .ge 78, 3) := by decide +kernel
theorem dX5_marginOf_98 : decode cX5_marginOf 98 = .ok (.aload_n 0, 1) := by decide +kernel
theorem dX5_marginOf_99 : decode cX5_marginOf 99 = .ok (.getfield 20, 3) := by decide +kernel
theorem dX5_marginOf_102 : decode cX5_marginOf 102 = .ok (.bipush 6, 2) := by decide +kernel
theorem dX5_marginOf_104 : decode cX5_marginOf 104 = .ok (.iload_n 1, 1) := by decide +kernel
theorem dX5_marginOf_105 : decode cX5_marginOf 105 = .ok (.imul, 1) := by decide +kernel
theorem dX5_marginOf_106 : decode cX5_marginOf 106 = .ok (.iload 4, 2) := by decide +kernel
theorem dX5_marginOf_108 : decode cX5_marginOf 108 = .ok (.iadd, 1) := by decide +kernel
theorem dX5_marginOf_109 : decode cX5_marginOf 109 = .ok (.iaload, 1) := by decide +kernel
theorem dX5_marginOf_110 : decode cX5_marginOf 110 = .ok (.i2l, 1) := by decide +kernel
theorem dX5_marginOf_111 : decode cX5_marginOf 111 = .ok (.lstore 5, 2) := by decide +kernel
theorem dX5_marginOf_113 : decode cX5_marginOf 113 = .ok (.lload 5, 2) := by decide +kernel
theorem dX5_marginOf_115 : decode cX5_marginOf 115 = .ok (.lconst 0, 1) := by decide +kernel
theorem dX5_marginOf_116 : decode cX5_marginOf 116 = .ok (.lcmp, 1) := by decide +kernel
theorem dX5_marginOf_117 : decode cX5_marginOf 117 = .ok (.ifCond .ge 9, 3) := by decide +kernel
theorem dX5_marginOf_120 : decode cX5_marginOf 120 = .ok (.lload 5, 2) := by decide +kernel
theorem dX5_marginOf_122 : decode cX5_marginOf 122 = .ok (.lneg, 1) := by decide +kernel
theorem dX5_marginOf_123 : decode cX5_marginOf 123 = .ok (.goto 5, 3) := by decide +kernel
theorem dX5_marginOf_126 : decode cX5_marginOf 126 = .ok (.lload 5, 2) := by decide +kernel
theorem dX5_marginOf_128 : decode cX5_marginOf 128 = .ok (.lstore 5, 2) := by decide +kernel
theorem dX5_marginOf_130 : decode cX5_marginOf 130 = .ok (.lload 5, 2) := by decide +kernel
theorem dX5_marginOf_132 : decode cX5_marginOf 132 = .ok (.aload_n 0, 1) := by decide +kernel
theorem dX5_marginOf_133 : decode cX5_marginOf 133 = .ok (.getfield 29, 3) := by decide +kernel
theorem dX5_marginOf_136 : decode cX5_marginOf 136 = .ok (.iload 4, 2) := by decide +kernel
theorem dX5_marginOf_138 : decode cX5_marginOf 138 = .ok (.iaload, 1) := by decide +kernel
theorem dX5_marginOf_139 : decode cX5_marginOf 139 = .ok (.i2l, 1) := by decide +kernel
theorem dX5_marginOf_140 : decode cX5_marginOf 140 = .ok (.lcmp, 1) := by decide +kernel
theorem dX5_marginOf_141 : decode cX5_marginOf 141 = .ok (.ifCond .le 26, 3) := by decide +kernel
theorem dX5_marginOf_144 : decode cX5_marginOf 144 = .ok (.lload_n 2, 1) := by decide +kernel
theorem dX5_marginOf_145 : decode cX5_marginOf 145 = .ok (.aload_n 0, 1) := by decide +kernel
theorem dX5_marginOf_146 : decode cX5_marginOf 146 = .ok (.getfield 32, 3) := by decide +kernel
theorem dX5_marginOf_149 : decode cX5_marginOf 149 = .ok (.iload 4, 2) := by decide +kernel
theorem dX5_marginOf_151 : decode cX5_marginOf 151 = .ok (.iaload, 1) := by decide +kernel
theorem dX5_marginOf_152 : decode cX5_marginOf 152 = .ok (.i2l, 1) := by decide +kernel
theorem dX5_marginOf_153 : decode cX5_marginOf 153 = .ok (.lload 5, 2) := by decide +kernel
theorem dX5_marginOf_155 : decode cX5_marginOf 155 = .ok (.aload_n 0, 1) := by decide +kernel
theorem dX5_marginOf_156 : decode cX5_marginOf 156 = .ok (.getfield 29, 3) := by decide +kernel
theorem dX5_marginOf_159 : decode cX5_marginOf 159 = .ok (.iload 4, 2) := by decide +kernel
theorem dX5_marginOf_161 : decode cX5_marginOf 161 = .ok (.iaload, 1) := by decide +kernel
theorem dX5_marginOf_162 : decode cX5_marginOf 162 = .ok (.i2l, 1) := by decide +kernel
theorem dX5_marginOf_163 : decode cX5_marginOf 163 = .ok (.lsub, 1) := by decide +kernel
theorem dX5_marginOf_164 : decode cX5_marginOf 164 = .ok (.lmul, 1) := by decide +kernel
theorem dX5_marginOf_165 : decode cX5_marginOf 165 = .ok (.ladd, 1) := by decide +kernel
theorem dX5_marginOf_166 : decode cX5_marginOf 166 = .ok (.lstore_n 2, 1) := by decide +kernel
theorem dX5_marginOf_167 : decode cX5_marginOf 167 = .ok (.iinc 4 1, 3) := by decide +kernel
theorem dX5_marginOf_170 : decode cX5_marginOf 170 = .ok (.goto (-81), 3) := by decide +kernel
theorem dX5_marginOf_173 : decode cX5_marginOf 173 = .ok (.lload_n 2, 1) := by decide +kernel
theorem dX5_marginOf_174 : decode cX5_marginOf 174 = .ok (.lreturn, 1) := by decide +kernel
theorem dX5_withdraw_0 : decode cX5_withdraw 0 = .ok (.aload_n 0, 1) := by decide +kernel
theorem dX5_withdraw_1 : decode cX5_withdraw 1 = .ok (.aload_n 0, 1) := by decide +kernel
theorem dX5_withdraw_2 : decode cX5_withdraw 2 = .ok (.iload_n 1, 1) := by decide +kernel
theorem dX5_withdraw_3 : decode cX5_withdraw 3 = .ok (.invokevirtual 100, 3) := by decide +kernel
theorem dX5_withdraw_6 : decode cX5_withdraw 6 = .ok (.ifCond .eq 14, 3) := by decide +kernel
theorem dX5_withdraw_9 : decode cX5_withdraw 9 = .ok (.lload_n 2, 1) := by decide +kernel
theorem dX5_withdraw_10 : decode cX5_withdraw 10 = .ok (.lconst 1, 1) := by decide +kernel
theorem dX5_withdraw_11 : decode cX5_withdraw 11 = .ok (.ldc2_w 76, 3) := by decide +kernel
theorem dX5_withdraw_14 : decode cX5_withdraw 14 = .ok (.invokestatic 78, 3) := by decide +kernel
theorem dX5_withdraw_17 : decode cX5_withdraw 17 = .ok (.ifCond .ne 7, 3) := by decide +kernel
theorem dX5_withdraw_20 : decode cX5_withdraw 20 = .ok (.iconst 1, 1) := by decide +kernel
theorem dX5_withdraw_21 : decode cX5_withdraw 21 = .ok (.goto 17, 3) := by decide +kernel
theorem dX5_withdraw_24 : decode cX5_withdraw 24 = .ok (.aload_n 0, 1) := by decide +kernel
theorem dX5_withdraw_25 : decode cX5_withdraw 25 = .ok (.getfield 16, 3) := by decide +kernel
theorem dX5_withdraw_28 : decode cX5_withdraw 28 = .ok (.iload_n 1, 1) := by decide +kernel
theorem dX5_withdraw_29 : decode cX5_withdraw 29 = .ok (.iaload, 1) := by decide +kernel
theorem dX5_withdraw_30 : decode cX5_withdraw 30 = .ok (.ifCond .eq 7, 3) := by decide +kernel
theorem dX5_withdraw_33 : decode cX5_withdraw 33 = .ok (.iconst 2, 1) := by decide +kernel
theorem dX5_withdraw_34 : decode cX5_withdraw 34 = .ok (.goto 4, 3) := by decide +kernel
theorem dX5_withdraw_37 : decode cX5_withdraw 37 = .ok (.iconst 0, 1) := by decide +kernel
theorem dX5_withdraw_38 : decode cX5_withdraw 38 = .ok (.putfield 62, 3) := by decide +kernel
theorem dX5_withdraw_41 : decode cX5_withdraw 41 = .ok (.aload_n 0, 1) := by decide +kernel
theorem dX5_withdraw_42 : decode cX5_withdraw 42 = .ok (.getfield 62, 3) := by decide +kernel
theorem dX5_withdraw_45 : decode cX5_withdraw 45 = .ok (.ifCond .le 5, 3) := by decide +kernel
theorem dX5_withdraw_48 : decode cX5_withdraw 48 = .ok (.lconst 0, 1) := by decide +kernel
theorem dX5_withdraw_49 : decode cX5_withdraw 49 = .ok (.lreturn, 1) := by decide +kernel
theorem dX5_withdraw_50 : decode cX5_withdraw 50 = .ok (.aload_n 0, 1) := by decide +kernel
theorem dX5_withdraw_51 : decode cX5_withdraw 51 = .ok (.getfield 7, 3) := by decide +kernel
theorem dX5_withdraw_54 : decode cX5_withdraw 54 = .ok (.iload_n 1, 1) := by decide +kernel
theorem dX5_withdraw_55 : decode cX5_withdraw 55 = .ok (.laload, 1) := by decide +kernel
theorem dX5_withdraw_56 : decode cX5_withdraw 56 = .ok (.lload_n 2, 1) := by decide +kernel
theorem dX5_withdraw_57 : decode cX5_withdraw 57 = .ok (.lsub, 1) := by decide +kernel
theorem dX5_withdraw_58 : decode cX5_withdraw 58 = .ok (.aload_n 0, 1) := by decide +kernel
theorem dX5_withdraw_59 : decode cX5_withdraw 59 = .ok (.iload_n 1, 1) := by decide +kernel
theorem dX5_withdraw_60 : decode cX5_withdraw 60 = .ok (.invokevirtual 103, 3) := by decide +kernel
theorem dX5_withdraw_63 : decode cX5_withdraw 63 = .ok (.lcmp, 1) := by decide +kernel
theorem dX5_withdraw_64 : decode cX5_withdraw 64 = .ok (.ifCond .lt 17, 3) := by decide +kernel
theorem dX5_withdraw_67 : decode cX5_withdraw 67 = .ok (.aload_n 0, 1) := by decide +kernel
theorem dX5_withdraw_68 : decode cX5_withdraw 68 = .ok (.getfield 7, 3) := by decide +kernel
theorem dX5_withdraw_71 : decode cX5_withdraw 71 = .ok (.iload_n 1, 1) := by decide +kernel
theorem dX5_withdraw_72 : decode cX5_withdraw 72 = .ok (.laload, 1) := by decide +kernel
theorem dX5_withdraw_73 : decode cX5_withdraw 73 = .ok (.lload_n 2, 1) := by decide +kernel
theorem dX5_withdraw_74 : decode cX5_withdraw 74 = .ok (.lsub, 1) := by decide +kernel
theorem dX5_withdraw_75 : decode cX5_withdraw 75 = .ok (.invokestatic 88, 3) := by decide +kernel
theorem dX5_withdraw_78 : decode cX5_withdraw 78 = .ok (.ifCond .eq 7, 3) := by decide +kernel
theorem dX5_withdraw_81 : decode cX5_withdraw 81 = .ok (.ldc2_w 92, 3) := by decide +kernel
theorem dX5_withdraw_84 : decode cX5_withdraw 84 = .ok (.lreturn, 1) := by decide +kernel
theorem dX5_withdraw_85 : decode cX5_withdraw 85 = .ok (.aload_n 0, 1) := by decide +kernel
theorem dX5_withdraw_86 : decode cX5_withdraw 86 = .ok (.getfield 7, 3) := by decide +kernel
theorem dX5_withdraw_89 : decode cX5_withdraw 89 = .ok (.iload_n 1, 1) := by decide +kernel
theorem dX5_withdraw_90 : decode cX5_withdraw 90 = .ok (.aload_n 0, 1) := by decide +kernel
theorem dX5_withdraw_91 : decode cX5_withdraw 91 = .ok (.getfield 7, 3) := by decide +kernel
theorem dX5_withdraw_94 : decode cX5_withdraw 94 = .ok (.iload_n 1, 1) := by decide +kernel
theorem dX5_withdraw_95 : decode cX5_withdraw 95 = .ok (.laload, 1) := by decide +kernel
theorem dX5_withdraw_96 : decode cX5_withdraw 96 = .ok (.lload_n 2, 1) := by decide +kernel
theorem dX5_withdraw_97 : decode cX5_withdraw 97 = .ok (.lsub, 1) := by decide +kernel
theorem dX5_withdraw_98 : decode cX5_withdraw 98 = .ok (.lastore, 1) := by decide +kernel
theorem dX5_withdraw_99 : decode cX5_withdraw 99 = .ok (.aload_n 0, 1) := by decide +kernel
theorem dX5_withdraw_100 : decode cX5_withdraw 100 = .ok (.getfield 7, 3) := by decide +kernel
theorem dX5_withdraw_103 : decode cX5_withdraw 103 = .ok (.iload_n 1, 1) := by decide +kernel
theorem dX5_withdraw_104 : decode cX5_withdraw 104 = .ok (.laload, 1) := by decide +kernel
theorem dX5_withdraw_105 : decode cX5_withdraw 105 = .ok (.lreturn, 1) := by decide +kernel
theorem dX5_trade_0 : decode cX5_trade 0 = .ok (.aload_n 0, 1) := by decide +kernel
theorem dX5_trade_1 : decode cX5_trade 1 = .ok (.iload_n 1, 1) := by decide +kernel
theorem dX5_trade_2 : decode cX5_trade 2 = .ok (.invokevirtual 100, 3) := by decide +kernel
theorem dX5_trade_5 : decode cX5_trade 5 = .ok (.ifCond .eq 28, 3) := by decide +kernel
theorem dX5_trade_8 : decode cX5_trade 8 = .ok (.aload_n 0, 1) := by decide +kernel
theorem dX5_trade_9 : decode cX5_trade 9 = .ok (.iload_n 2, 1) := by decide +kernel
theorem dX5_trade_10 : decode cX5_trade 10 = .ok (.invokevirtual 100, 3) := by decide +kernel
theorem dX5_trade_13 : decode cX5_trade 13 = .ok (.ifCond .eq 20, 3) := by decide +kernel
theorem dX5_trade_16 : decode cX5_trade 16 = .ok (.iload_n 1, 1) := by decide +kernel
theorem dX5_trade_17 : decode cX5_trade 17 = .ok (.iload_n 2, 1) := by decide +kernel
theorem dX5_trade_18 : decode cX5_trade 18 = .ok (.if_icmp .eq 15, 3) := by decide +kernel
theorem dX5_trade_21 : decode cX5_trade 21 = .ok (.aload_n 0, 1) := by decide +kernel
theorem dX5_trade_22 : decode cX5_trade 22 = .ok (.iload_n 3, 1) := by decide +kernel
theorem dX5_trade_23 : decode cX5_trade 23 = .ok (.invokevirtual 94, 3) := by decide +kernel
theorem dX5_trade_26 : decode cX5_trade 26 = .ok (.ifCond .eq 7, 3) := by decide +kernel
theorem dX5_trade_29 : decode cX5_trade 29 = .ok (.iconst 1, 1) := by decide +kernel
theorem dX5_trade_30 : decode cX5_trade 30 = .ok (.goto 4, 3) := by decide +kernel
theorem dX5_trade_33 : decode cX5_trade 33 = .ok (.iconst 0, 1) := by decide +kernel
theorem dX5_trade_34 : decode cX5_trade 34 = .ok (.istore 6, 2) := by decide +kernel
theorem dX5_trade_36 : decode cX5_trade 36 = .ok (.iload 6, 2) := by decide +kernel
theorem dX5_trade_38 : decode cX5_trade 38 = .ok (.ifCond .eq 33, 3) := by decide +kernel
theorem dX5_trade_41 : decode cX5_trade 41 = .ok (.iload 4, 2) := by decide +kernel
theorem dX5_trade_43 : decode cX5_trade 43 = .ok (.i2l, 1) := by decide +kernel
theorem dX5_trade_44 : decode cX5_trade 44 = .ok (.lconst 1, 1) := by decide +kernel
theorem dX5_trade_45 : decode cX5_trade 45 = .ok (.ldc2_w 107, 3) := by decide +kernel
theorem dX5_trade_48 : decode cX5_trade 48 = .ok (.invokestatic 78, 3) := by decide +kernel
theorem dX5_trade_51 : decode cX5_trade 51 = .ok (.ifCond .eq 20, 3) := by decide +kernel
theorem dX5_trade_54 : decode cX5_trade 54 = .ok (.iload 5, 2) := by decide +kernel
theorem dX5_trade_56 : decode cX5_trade 56 = .ok (.i2l, 1) := by decide +kernel
theorem dX5_trade_57 : decode cX5_trade 57 = .ok (.lconst 0, 1) := by decide +kernel
theorem dX5_trade_58 : decode cX5_trade 58 = .ok (.ldc2_w 82, 3) := by decide +kernel
theorem dX5_trade_61 : decode cX5_trade 61 = .ok (.invokestatic 78, 3) := by decide +kernel
theorem dX5_trade_64 : decode cX5_trade 64 = .ok (.ifCond .eq 7, 3) := by decide +kernel
theorem dX5_trade_67 : decode cX5_trade 67 = .ok (.iconst 1, 1) := by decide +kernel
theorem dX5_trade_68 : decode cX5_trade 68 = .ok (.goto 4, 3) := by decide +kernel
theorem dX5_trade_71 : decode cX5_trade 71 = .ok (.iconst 0, 1) := by decide +kernel
theorem dX5_trade_72 : decode cX5_trade 72 = .ok (.istore 6, 2) := by decide +kernel
theorem dX5_trade_74 : decode cX5_trade 74 = .ok (.aload_n 0, 1) := by decide +kernel
theorem dX5_trade_75 : decode cX5_trade 75 = .ok (.iload 6, 2) := by decide +kernel
theorem dX5_trade_77 : decode cX5_trade 77 = .ok (.ifCond .ne 7, 3) := by decide +kernel
theorem dX5_trade_80 : decode cX5_trade 80 = .ok (.iconst 1, 1) := by decide +kernel
theorem dX5_trade_81 : decode cX5_trade 81 = .ok (.goto 26, 3) := by decide +kernel
theorem dX5_trade_84 : decode cX5_trade 84 = .ok (.aload_n 0, 1) := by decide +kernel
theorem dX5_trade_85 : decode cX5_trade 85 = .ok (.getfield 16, 3) := by decide +kernel
theorem dX5_trade_88 : decode cX5_trade 88 = .ok (.iload_n 1, 1) := by decide +kernel
theorem dX5_trade_89 : decode cX5_trade 89 = .ok (.iaload, 1) := by decide +kernel
theorem dX5_trade_90 : decode cX5_trade 90 = .ok (.ifCond .ne 12, 3) := by decide +kernel
theorem dX5_trade_93 : decode cX5_trade 93 = .ok (.aload_n 0, 1) := by decide +kernel
theorem dX5_trade_94 : decode cX5_trade 94 = .ok (.getfield 16, 3) := by decide +kernel
theorem dX5_trade_97 : decode cX5_trade 97 = .ok (.iload_n 2, 1) := by decide +kernel
theorem dX5_trade_98 : decode cX5_trade 98 = .ok (.iaload, 1) := by decide +kernel
theorem dX5_trade_99 : decode cX5_trade 99 = .ok (.ifCond .eq 7, 3) := by decide +kernel
theorem dX5_trade_102 : decode cX5_trade 102 = .ok (.iconst 2, 1) := by decide +kernel
theorem dX5_trade_103 : decode cX5_trade 103 = .ok (.goto 4, 3) := by decide +kernel
theorem dX5_trade_106 : decode cX5_trade 106 = .ok (.iconst 0, 1) := by decide +kernel
theorem dX5_trade_107 : decode cX5_trade 107 = .ok (.putfield 62, 3) := by decide +kernel
theorem dX5_trade_110 : decode cX5_trade 110 = .ok (.aload_n 0, 1) := by decide +kernel
theorem dX5_trade_111 : decode cX5_trade 111 = .ok (.getfield 62, 3) := by decide +kernel
theorem dX5_trade_114 : decode cX5_trade 114 = .ok (.ifCond .le 5, 3) := by decide +kernel
theorem dX5_trade_117 : decode cX5_trade 117 = .ok (.iconst 0, 1) := by decide +kernel
theorem dX5_trade_118 : decode cX5_trade 118 = .ok (.ireturn, 1) := by decide +kernel
theorem dX5_trade_119 : decode cX5_trade 119 = .ok (.aload_n 0, 1) := by decide +kernel
theorem dX5_trade_120 : decode cX5_trade 120 = .ok (.getfield 20, 3) := by decide +kernel
theorem dX5_trade_123 : decode cX5_trade 123 = .ok (.bipush 6, 2) := by decide +kernel
theorem dX5_trade_125 : decode cX5_trade 125 = .ok (.iload_n 1, 1) := by decide +kernel
theorem dX5_trade_126 : decode cX5_trade 126 = .ok (.imul, 1) := by decide +kernel
theorem dX5_trade_127 : decode cX5_trade 127 = .ok (.iload_n 3, 1) := by decide +kernel
theorem dX5_trade_128 : decode cX5_trade 128 = .ok (.iadd, 1) := by decide +kernel
theorem dX5_trade_129 : decode cX5_trade 129 = .ok (.iaload, 1) := by decide +kernel
theorem dX5_trade_130 : decode cX5_trade 130 = .ok (.iload 4, 2) := by decide +kernel
theorem dX5_trade_132 : decode cX5_trade 132 = .ok (.iadd, 1) := by decide +kernel
theorem dX5_trade_133 : decode cX5_trade 133 = .ok (.istore 7, 2) := by decide +kernel
theorem dX5_trade_135 : decode cX5_trade 135 = .ok (.aload_n 0, 1) := by decide +kernel
theorem dX5_trade_136 : decode cX5_trade 136 = .ok (.getfield 20, 3) := by decide +kernel
theorem dX5_trade_139 : decode cX5_trade 139 = .ok (.bipush 6, 2) := by decide +kernel
theorem dX5_trade_141 : decode cX5_trade 141 = .ok (.iload_n 2, 1) := by decide +kernel
theorem dX5_trade_142 : decode cX5_trade 142 = .ok (.imul, 1) := by decide +kernel
theorem dX5_trade_143 : decode cX5_trade 143 = .ok (.iload_n 3, 1) := by decide +kernel
theorem dX5_trade_144 : decode cX5_trade 144 = .ok (.iadd, 1) := by decide +kernel
theorem dX5_trade_145 : decode cX5_trade 145 = .ok (.iaload, 1) := by decide +kernel
theorem dX5_trade_146 : decode cX5_trade 146 = .ok (.iload 4, 2) := by decide +kernel
theorem dX5_trade_148 : decode cX5_trade 148 = .ok (.isub, 1) := by decide +kernel
theorem dX5_trade_149 : decode cX5_trade 149 = .ok (.istore 8, 2) := by decide +kernel
theorem dX5_trade_151 : decode cX5_trade 151 = .ok (.iload 4, 2) := by decide +kernel
theorem dX5_trade_153 : decode cX5_trade 153 = .ok (.i2l, 1) := by decide +kernel
theorem dX5_trade_154 : decode cX5_trade 154 = .ok (.aload_n 0, 1) := by decide +kernel
theorem dX5_trade_155 : decode cX5_trade 155 = .ok (.getfield 26, 3) := by decide +kernel
theorem dX5_trade_158 : decode cX5_trade 158 = .ok (.iload_n 3, 1) := by decide +kernel
theorem dX5_trade_159 : decode cX5_trade 159 = .ok (.iaload, 1) := by decide +kernel
theorem dX5_trade_160 : decode cX5_trade 160 = .ok (.iload 5, 2) := by decide +kernel
theorem dX5_trade_162 : decode cX5_trade 162 = .ok (.isub, 1) := by decide +kernel
theorem dX5_trade_163 : decode cX5_trade 163 = .ok (.i2l, 1) := by decide +kernel
theorem dX5_trade_164 : decode cX5_trade 164 = .ok (.lmul, 1) := by decide +kernel
theorem dX5_trade_165 : decode cX5_trade 165 = .ok (.lstore 9, 2) := by decide +kernel
theorem dX5_trade_167 : decode cX5_trade 167 = .ok (.iload 7, 2) := by decide +kernel
theorem dX5_trade_169 : decode cX5_trade 169 = .ok (.ldc 109, 2) := by decide +kernel
theorem dX5_trade_171 : decode cX5_trade 171 = .ok (.if_icmp .gt 40, 3) := by decide +kernel
theorem dX5_trade_174 : decode cX5_trade 174 = .ok (.iload 8, 2) := by decide +kernel
theorem dX5_trade_176 : decode cX5_trade 176 = .ok (.ldc 110, 2) := by decide +kernel
theorem dX5_trade_178 : decode cX5_trade 178 = .ok (.if_icmp .lt 33, 3) := by decide +kernel
theorem dX5_trade_181 : decode cX5_trade 181 = .ok (.aload_n 0, 1) := by decide +kernel
theorem dX5_trade_182 : decode cX5_trade 182 = .ok (.getfield 7, 3) := by decide +kernel
theorem dX5_trade_185 : decode cX5_trade 185 = .ok (.iload_n 1, 1) := by decide +kernel
theorem dX5_trade_186 : decode cX5_trade 186 = .ok (.laload, 1) := by decide +kernel
theorem dX5_trade_187 : decode cX5_trade 187 = .ok (.lload 9, 2) := by decide +kernel
theorem dX5_trade_189 : decode cX5_trade 189 = .ok (.ladd, 1) := by decide +kernel
theorem dX5_trade_190 : decode cX5_trade 190 = .ok (.invokestatic 88, 3) := by decide +kernel
theorem dX5_trade_193 : decode cX5_trade 193 = .ok (.ifCond .ne 18, 3) := by decide +kernel
theorem dX5_trade_196 : decode cX5_trade 196 = .ok (.aload_n 0, 1) := by decide +kernel
theorem dX5_trade_197 : decode cX5_trade 197 = .ok (.getfield 7, 3) := by decide +kernel
theorem dX5_trade_200 : decode cX5_trade 200 = .ok (.iload_n 2, 1) := by decide +kernel
theorem dX5_trade_201 : decode cX5_trade 201 = .ok (.laload, 1) := by decide +kernel
theorem dX5_trade_202 : decode cX5_trade 202 = .ok (.lload 9, 2) := by decide +kernel
theorem dX5_trade_204 : decode cX5_trade 204 = .ok (.lsub, 1) := by decide +kernel
theorem dX5_trade_205 : decode cX5_trade 205 = .ok (.invokestatic 88, 3) := by decide +kernel
theorem dX5_trade_208 : decode cX5_trade 208 = .ok (.ifCond .eq 5, 3) := by decide +kernel
theorem dX5_trade_211 : decode cX5_trade 211 = .ok (.iconst (-1), 1) := by decide +kernel
theorem dX5_trade_212 : decode cX5_trade 212 = .ok (.ireturn, 1) := by decide +kernel
theorem dX5_trade_213 : decode cX5_trade 213 = .ok (.aload_n 0, 1) := by decide +kernel
theorem dX5_trade_214 : decode cX5_trade 214 = .ok (.getfield 20, 3) := by decide +kernel
theorem dX5_trade_217 : decode cX5_trade 217 = .ok (.bipush 6, 2) := by decide +kernel
theorem dX5_trade_219 : decode cX5_trade 219 = .ok (.iload_n 1, 1) := by decide +kernel
theorem dX5_trade_220 : decode cX5_trade 220 = .ok (.imul, 1) := by decide +kernel
theorem dX5_trade_221 : decode cX5_trade 221 = .ok (.iload_n 3, 1) := by decide +kernel
theorem dX5_trade_222 : decode cX5_trade 222 = .ok (.iadd, 1) := by decide +kernel
theorem dX5_trade_223 : decode cX5_trade 223 = .ok (.iload 7, 2) := by decide +kernel
theorem dX5_trade_225 : decode cX5_trade 225 = .ok (.iastore, 1) := by decide +kernel
theorem dX5_trade_226 : decode cX5_trade 226 = .ok (.aload_n 0, 1) := by decide +kernel
theorem dX5_trade_227 : decode cX5_trade 227 = .ok (.getfield 20, 3) := by decide +kernel
theorem dX5_trade_230 : decode cX5_trade 230 = .ok (.bipush 6, 2) := by decide +kernel
theorem dX5_trade_232 : decode cX5_trade 232 = .ok (.iload_n 2, 1) := by decide +kernel
theorem dX5_trade_233 : decode cX5_trade 233 = .ok (.imul, 1) := by decide +kernel
theorem dX5_trade_234 : decode cX5_trade 234 = .ok (.iload_n 3, 1) := by decide +kernel
theorem dX5_trade_235 : decode cX5_trade 235 = .ok (.iadd, 1) := by decide +kernel
theorem dX5_trade_236 : decode cX5_trade 236 = .ok (.iload 8, 2) := by decide +kernel
theorem dX5_trade_238 : decode cX5_trade 238 = .ok (.iastore, 1) := by decide +kernel
theorem dX5_trade_239 : decode cX5_trade 239 = .ok (.aload_n 0, 1) := by decide +kernel
theorem dX5_trade_240 : decode cX5_trade 240 = .ok (.getfield 7, 3) := by decide +kernel
theorem dX5_trade_243 : decode cX5_trade 243 = .ok (.iload_n 1, 1) := by decide +kernel
theorem dX5_trade_244 : decode cX5_trade 244 = .ok (.aload_n 0, 1) := by decide +kernel
theorem dX5_trade_245 : decode cX5_trade 245 = .ok (.getfield 7, 3) := by decide +kernel
theorem dX5_trade_248 : decode cX5_trade 248 = .ok (.iload_n 1, 1) := by decide +kernel
theorem dX5_trade_249 : decode cX5_trade 249 = .ok (.laload, 1) := by decide +kernel
theorem dX5_trade_250 : decode cX5_trade 250 = .ok (.lload 9, 2) := by decide +kernel
theorem dX5_trade_252 : decode cX5_trade 252 = .ok (.ladd, 1) := by decide +kernel
theorem dX5_trade_253 : decode cX5_trade 253 = .ok (.lastore, 1) := by decide +kernel
theorem dX5_trade_254 : decode cX5_trade 254 = .ok (.aload_n 0, 1) := by decide +kernel
theorem dX5_trade_255 : decode cX5_trade 255 = .ok (.getfield 7, 3) := by decide +kernel
theorem dX5_trade_258 : decode cX5_trade 258 = .ok (.iload_n 2, 1) := by decide +kernel
theorem dX5_trade_259 : decode cX5_trade 259 = .ok (.aload_n 0, 1) := by decide +kernel
theorem dX5_trade_260 : decode cX5_trade 260 = .ok (.getfield 7, 3) := by decide +kernel
theorem dX5_trade_263 : decode cX5_trade 263 = .ok (.iload_n 2, 1) := by decide +kernel
theorem dX5_trade_264 : decode cX5_trade 264 = .ok (.laload, 1) := by decide +kernel
theorem dX5_trade_265 : decode cX5_trade 265 = .ok (.lload 9, 2) := by decide +kernel
theorem dX5_trade_267 : decode cX5_trade 267 = .ok (.lsub, 1) := by decide +kernel
theorem dX5_trade_268 : decode cX5_trade 268 = .ok (.lastore, 1) := by decide +kernel
theorem dX5_trade_269 : decode cX5_trade 269 = .ok (.aload_n 0, 1) := by decide +kernel
theorem dX5_trade_270 : decode cX5_trade 270 = .ok (.dup, 1) := by decide +kernel
theorem dX5_trade_271 : decode cX5_trade 271 = .ok (.getfield 111, 3) := by decide +kernel
theorem dX5_trade_274 : decode cX5_trade 274 = .ok (.lconst 1, 1) := by decide +kernel
theorem dX5_trade_275 : decode cX5_trade 275 = .ok (.ladd, 1) := by decide +kernel
theorem dX5_trade_276 : decode cX5_trade 276 = .ok (.putfield 111, 3) := by decide +kernel
theorem dX5_trade_279 : decode cX5_trade 279 = .ok (.aload_n 0, 1) := by decide +kernel
theorem dX5_trade_280 : decode cX5_trade 280 = .ok (.getfield 111, 3) := by decide +kernel
theorem dX5_trade_283 : decode cX5_trade 283 = .ok (.l2i, 1) := by decide +kernel
theorem dX5_trade_284 : decode cX5_trade 284 = .ok (.ireturn, 1) := by decide +kernel
theorem dX5_mark_0 : decode cX5_mark 0 = .ok (.aload_n 0, 1) := by decide +kernel
theorem dX5_mark_1 : decode cX5_mark 1 = .ok (.aload_n 0, 1) := by decide +kernel
theorem dX5_mark_2 : decode cX5_mark 2 = .ok (.iload_n 1, 1) := by decide +kernel
theorem dX5_mark_3 : decode cX5_mark 3 = .ok (.invokevirtual 94, 3) := by decide +kernel
theorem dX5_mark_6 : decode cX5_mark 6 = .ok (.ifCond .eq 15, 3) := by decide +kernel
theorem dX5_mark_9 : decode cX5_mark 9 = .ok (.iload_n 2, 1) := by decide +kernel
theorem dX5_mark_10 : decode cX5_mark 10 = .ok (.i2l, 1) := by decide +kernel
theorem dX5_mark_11 : decode cX5_mark 11 = .ok (.lconst 0, 1) := by decide +kernel
theorem dX5_mark_12 : decode cX5_mark 12 = .ok (.ldc2_w 82, 3) := by decide +kernel
theorem dX5_mark_15 : decode cX5_mark 15 = .ok (.invokestatic 78, 3) := by decide +kernel
theorem dX5_mark_18 : decode cX5_mark 18 = .ok (.ifCond .ne 7, 3) := by decide +kernel
theorem dX5_mark_21 : decode cX5_mark 21 = .ok (.iconst 1, 1) := by decide +kernel
theorem dX5_mark_22 : decode cX5_mark 22 = .ok (.goto 4, 3) := by decide +kernel
theorem dX5_mark_25 : decode cX5_mark 25 = .ok (.iconst 0, 1) := by decide +kernel
theorem dX5_mark_26 : decode cX5_mark 26 = .ok (.putfield 62, 3) := by decide +kernel
theorem dX5_mark_29 : decode cX5_mark 29 = .ok (.aload_n 0, 1) := by decide +kernel
theorem dX5_mark_30 : decode cX5_mark 30 = .ok (.getfield 62, 3) := by decide +kernel
theorem dX5_mark_33 : decode cX5_mark 33 = .ok (.ifCond .le 5, 3) := by decide +kernel
theorem dX5_mark_36 : decode cX5_mark 36 = .ok (.iconst 0, 1) := by decide +kernel
theorem dX5_mark_37 : decode cX5_mark 37 = .ok (.ireturn, 1) := by decide +kernel
theorem dX5_mark_38 : decode cX5_mark 38 = .ok (.iload_n 2, 1) := by decide +kernel
theorem dX5_mark_39 : decode cX5_mark 39 = .ok (.aload_n 0, 1) := by decide +kernel
theorem dX5_mark_40 : decode cX5_mark 40 = .ok (.getfield 26, 3) := by decide +kernel
theorem dX5_mark_43 : decode cX5_mark 43 = .ok (.iload_n 1, 1) := by decide +kernel
theorem dX5_mark_44 : decode cX5_mark 44 = .ok (.iaload, 1) := by decide +kernel
theorem dX5_mark_45 : decode cX5_mark 45 = .ok (.isub, 1) := by decide +kernel
theorem dX5_mark_46 : decode cX5_mark 46 = .ok (.i2l, 1) := by decide +kernel
theorem dX5_mark_47 : decode cX5_mark 47 = .ok (.lstore_n 3, 1) := by decide +kernel
theorem dX5_mark_48 : decode cX5_mark 48 = .ok (.iconst 0, 1) := by decide +kernel
theorem dX5_mark_49 : decode cX5_mark 49 = .ok (.istore 5, 2) := by decide +kernel
theorem dX5_mark_51 : decode cX5_mark 51 = .ok (.iload 5, 2) := by decide +kernel
theorem dX5_mark_53 : decode cX5_mark 53 = .ok (.aload_n 0, 1) := by decide +kernel
theorem dX5_mark_54 : decode cX5_mark 54 = .ok (.getfield 66, 3) := by decide +kernel
theorem dX5_mark_57 : decode cX5_mark 57 = .ok (.if_icmp .ge 40, 3) := by decide +kernel
theorem dX5_mark_60 : decode cX5_mark 60 = .ok (.aload_n 0, 1) := by decide +kernel
theorem dX5_mark_61 : decode cX5_mark 61 = .ok (.getfield 7, 3) := by decide +kernel
theorem dX5_mark_64 : decode cX5_mark 64 = .ok (.iload 5, 2) := by decide +kernel
theorem dX5_mark_66 : decode cX5_mark 66 = .ok (.laload, 1) := by decide +kernel
theorem dX5_mark_67 : decode cX5_mark 67 = .ok (.lload_n 3, 1) := by decide +kernel
theorem dX5_mark_68 : decode cX5_mark 68 = .ok (.aload_n 0, 1) := by decide +kernel
theorem dX5_mark_69 : decode cX5_mark 69 = .ok (.getfield 20, 3) := by decide +kernel
theorem dX5_mark_72 : decode cX5_mark 72 = .ok (.bipush 6, 2) := by decide +kernel
theorem dX5_mark_74 : decode cX5_mark 74 = .ok (.iload 5, 2) := by decide +kernel
theorem dX5_mark_76 : decode cX5_mark 76 = .ok (.imul, 1) := by decide +kernel
theorem dX5_mark_77 : decode cX5_mark 77 = .ok (.iload_n 1, 1) := by decide +kernel
theorem dX5_mark_78 : decode cX5_mark 78 = .ok (.iadd, 1) := by decide +kernel
theorem dX5_mark_79 : decode cX5_mark 79 = .ok (.iaload, 1) := by decide +kernel
theorem dX5_mark_80 : decode cX5_mark 80 = .ok (.i2l, 1) := by decide +kernel
theorem dX5_mark_81 : decode cX5_mark 81 = .ok (.lmul, 1) := by decide +kernel
theorem dX5_mark_82 : decode cX5_mark 82 = .ok (.ladd, 1) := by decide +kernel
theorem dX5_mark_83 : decode cX5_mark 83 = .ok (.invokestatic 88, 3) := by decide +kernel
theorem dX5_mark_86 : decode cX5_mark 86 = .ok (.ifCond .eq 5, 3) := by decide +kernel
theorem dX5_mark_89 : decode cX5_mark 89 = .ok (.iconst (-1), 1) := by decide +kernel
theorem dX5_mark_90 : decode cX5_mark 90 = .ok (.ireturn, 1) := by decide +kernel
theorem dX5_mark_91 : decode cX5_mark 91 = .ok (.iinc 5 1, 3) := by decide +kernel
theorem dX5_mark_94 : decode cX5_mark 94 = .ok (.goto (-43), 3) := by decide +kernel
theorem dX5_mark_97 : decode cX5_mark 97 = .ok (.iconst 0, 1) := by decide +kernel
theorem dX5_mark_98 : decode cX5_mark 98 = .ok (.istore 5, 2) := by decide +kernel
theorem dX5_mark_100 : decode cX5_mark 100 = .ok (.iconst 0, 1) := by decide +kernel
theorem dX5_mark_101 : decode cX5_mark 101 = .ok (.istore 6, 2) := by decide +kernel
theorem dX5_mark_103 : decode cX5_mark 103 = .ok (.iload 6, 2) := by decide +kernel
theorem dX5_mark_105 : decode cX5_mark 105 = .ok (.aload_n 0, 1) := by decide +kernel
theorem dX5_mark_106 : decode cX5_mark 106 = .ok (.getfield 66, 3) := by decide +kernel
theorem dX5_mark_109 : decode cX5_mark 109 = .ok (.if_icmp .ge 72, 3) := by decide +kernel
theorem dX5_mark_112 : decode cX5_mark 112 = .ok (.aload_n 0, 1) := by decide +kernel
theorem dX5_mark_113 : decode cX5_mark 113 = .ok (.getfield 7, 3) := by decide +kernel
theorem dX5_mark_116 : decode cX5_mark 116 = .ok (.iload 6, 2) := by decide +kernel
theorem dX5_mark_118 : decode cX5_mark 118 = .ok (.aload_n 0, 1) := by decide +kernel
theorem dX5_mark_119 : decode cX5_mark 119 = .ok (.getfield 7, 3) := by decide +kernel
theorem dX5_mark_122 : decode cX5_mark 122 = .ok (.iload 6, 2) := by decide +kernel
theorem dX5_mark_124 : decode cX5_mark 124 = .ok (.laload, 1) := by decide +kernel
theorem dX5_mark_125 : decode cX5_mark 125 = .ok (.lload_n 3, 1) := by decide +kernel
theorem dX5_mark_126 : decode cX5_mark 126 = .ok (.aload_n 0, 1) := by decide +kernel
theorem dX5_mark_127 : decode cX5_mark 127 = .ok (.getfield 20, 3) := by decide +kernel
theorem dX5_mark_130 : decode cX5_mark 130 = .ok (.bipush 6, 2) := by decide +kernel
theorem dX5_mark_132 : decode cX5_mark 132 = .ok (.iload 6, 2) := by decide +kernel
theorem dX5_mark_134 : decode cX5_mark 134 = .ok (.imul, 1) := by decide +kernel
theorem dX5_mark_135 : decode cX5_mark 135 = .ok (.iload_n 1, 1) := by decide +kernel
theorem dX5_mark_136 : decode cX5_mark 136 = .ok (.iadd, 1) := by decide +kernel
theorem dX5_mark_137 : decode cX5_mark 137 = .ok (.iaload, 1) := by decide +kernel
theorem dX5_mark_138 : decode cX5_mark 138 = .ok (.i2l, 1) := by decide +kernel
theorem dX5_mark_139 : decode cX5_mark 139 = .ok (.lmul, 1) := by decide +kernel
theorem dX5_mark_140 : decode cX5_mark 140 = .ok (.ladd, 1) := by decide +kernel
theorem dX5_mark_141 : decode cX5_mark 141 = .ok (.lastore, 1) := by decide +kernel
theorem dX5_mark_142 : decode cX5_mark 142 = .ok (.aload_n 0, 1) := by decide +kernel
theorem dX5_mark_143 : decode cX5_mark 143 = .ok (.getfield 16, 3) := by decide +kernel
theorem dX5_mark_146 : decode cX5_mark 146 = .ok (.iload 6, 2) := by decide +kernel
theorem dX5_mark_148 : decode cX5_mark 148 = .ok (.iaload, 1) := by decide +kernel
theorem dX5_mark_149 : decode cX5_mark 149 = .ok (.ifCond .ne 22, 3) := by decide +kernel
theorem dX5_mark_152 : decode cX5_mark 152 = .ok (.aload_n 0, 1) := by decide +kernel
theorem dX5_mark_153 : decode cX5_mark 153 = .ok (.getfield 7, 3) := by decide +kernel
theorem dX5_mark_156 : decode cX5_mark 156 = .ok (.iload 6, 2) := by decide +kernel
theorem dX5_mark_158 : decode cX5_mark 158 = .ok (.laload, 1) := by decide +kernel
theorem dX5_mark_159 : decode cX5_mark 159 = .ok (.lconst 0, 1) := by decide +kernel
theorem dX5_mark_160 : decode cX5_mark 160 = .ok (.lcmp, 1) := by decide +kernel
theorem dX5_mark_161 : decode cX5_mark 161 = .ok (.ifCond .ge 10, 3) := by decide +kernel
theorem dX5_mark_164 : decode cX5_mark 164 = .ok (.iload 5, 2) := by decide +kernel
theorem dX5_mark_166 : decode cX5_mark 166 = .ok (.iconst 1, 1) := by decide +kernel
theorem dX5_mark_167 : decode cX5_mark 167 = .ok (.iadd, 1) := by decide +kernel
theorem dX5_mark_168 : decode cX5_mark 168 = .ok (.goto 5, 3) := by decide +kernel
theorem dX5_mark_171 : decode cX5_mark 171 = .ok (.iload 5, 2) := by decide +kernel
theorem dX5_mark_173 : decode cX5_mark 173 = .ok (.istore 5, 2) := by decide +kernel
theorem dX5_mark_175 : decode cX5_mark 175 = .ok (.iinc 6 1, 3) := by decide +kernel
theorem dX5_mark_178 : decode cX5_mark 178 = .ok (.goto (-75), 3) := by decide +kernel
theorem dX5_mark_181 : decode cX5_mark 181 = .ok (.aload_n 0, 1) := by decide +kernel
theorem dX5_mark_182 : decode cX5_mark 182 = .ok (.getfield 26, 3) := by decide +kernel
theorem dX5_mark_185 : decode cX5_mark 185 = .ok (.iload_n 1, 1) := by decide +kernel
theorem dX5_mark_186 : decode cX5_mark 186 = .ok (.iload_n 2, 1) := by decide +kernel
theorem dX5_mark_187 : decode cX5_mark 187 = .ok (.iastore, 1) := by decide +kernel
theorem dX5_mark_188 : decode cX5_mark 188 = .ok (.iload 5, 2) := by decide +kernel
theorem dX5_mark_190 : decode cX5_mark 190 = .ok (.ireturn, 1) := by decide +kernel
theorem dX5_margin_0 : decode cX5_margin 0 = .ok (.aload_n 0, 1) := by decide +kernel
theorem dX5_margin_1 : decode cX5_margin 1 = .ok (.aload_n 0, 1) := by decide +kernel
theorem dX5_margin_2 : decode cX5_margin 2 = .ok (.iload_n 1, 1) := by decide +kernel
theorem dX5_margin_3 : decode cX5_margin 3 = .ok (.invokevirtual 100, 3) := by decide +kernel
theorem dX5_margin_6 : decode cX5_margin 6 = .ok (.ifCond .eq 7, 3) := by decide +kernel
theorem dX5_margin_9 : decode cX5_margin 9 = .ok (.iconst 0, 1) := by decide +kernel
theorem dX5_margin_10 : decode cX5_margin 10 = .ok (.goto 4, 3) := by decide +kernel
theorem dX5_margin_13 : decode cX5_margin 13 = .ok (.iconst 1, 1) := by decide +kernel
theorem dX5_margin_14 : decode cX5_margin 14 = .ok (.putfield 62, 3) := by decide +kernel
theorem dX5_margin_17 : decode cX5_margin 17 = .ok (.aload_n 0, 1) := by decide +kernel
theorem dX5_margin_18 : decode cX5_margin 18 = .ok (.getfield 62, 3) := by decide +kernel
theorem dX5_margin_21 : decode cX5_margin 21 = .ok (.ifCond .le 7, 3) := by decide +kernel
theorem dX5_margin_24 : decode cX5_margin 24 = .ok (.lconst 0, 1) := by decide +kernel
theorem dX5_margin_25 : decode cX5_margin 25 = .ok (.goto 8, 3) := by decide +kernel
theorem dX5_margin_28 : decode cX5_margin 28 = .ok (.aload_n 0, 1) := by decide +kernel
theorem dX5_margin_29 : decode cX5_margin 29 = .ok (.iload_n 1, 1) := by decide +kernel
theorem dX5_margin_30 : decode cX5_margin 30 = .ok (.invokevirtual 103, 3) := by decide +kernel
theorem dX5_margin_33 : decode cX5_margin 33 = .ok (.lreturn, 1) := by decide +kernel
theorem dX5_callOf_0 : decode cX5_callOf 0 = .ok (.aload_n 0, 1) := by decide +kernel
theorem dX5_callOf_1 : decode cX5_callOf 1 = .ok (.iload_n 1, 1) := by decide +kernel
theorem dX5_callOf_2 : decode cX5_callOf 2 = .ok (.invokevirtual 103, 3) := by decide +kernel
theorem dX5_callOf_5 : decode cX5_callOf 5 = .ok (.aload_n 0, 1) := by decide +kernel
theorem dX5_callOf_6 : decode cX5_callOf 6 = .ok (.getfield 7, 3) := by decide +kernel
theorem dX5_callOf_9 : decode cX5_callOf 9 = .ok (.iload_n 1, 1) := by decide +kernel
theorem dX5_callOf_10 : decode cX5_callOf 10 = .ok (.laload, 1) := by decide +kernel
theorem dX5_callOf_11 : decode cX5_callOf 11 = .ok (.lsub, 1) := by decide +kernel
theorem dX5_callOf_12 : decode cX5_callOf 12 = .ok (.lstore_n 2, 1) := by decide +kernel
theorem dX5_callOf_13 : decode cX5_callOf 13 = .ok (.aload_n 0, 1) := by decide +kernel
theorem dX5_callOf_14 : decode cX5_callOf 14 = .ok (.getfield 16, 3) := by decide +kernel
theorem dX5_callOf_17 : decode cX5_callOf 17 = .ok (.iload_n 1, 1) := by decide +kernel
theorem dX5_callOf_18 : decode cX5_callOf 18 = .ok (.iaload, 1) := by decide +kernel
theorem dX5_callOf_19 : decode cX5_callOf 19 = .ok (.ifCond .ne 9, 3) := by decide +kernel
theorem dX5_callOf_22 : decode cX5_callOf 22 = .ok (.lload_n 2, 1) := by decide +kernel
theorem dX5_callOf_23 : decode cX5_callOf 23 = .ok (.lconst 0, 1) := by decide +kernel
theorem dX5_callOf_24 : decode cX5_callOf 24 = .ok (.lcmp, 1) := by decide +kernel
theorem dX5_callOf_25 : decode cX5_callOf 25 = .ok (.ifCond .ge 7, 3) := by decide +kernel
theorem dX5_callOf_28 : decode cX5_callOf 28 = .ok (.lconst 0, 1) := by decide +kernel
theorem dX5_callOf_29 : decode cX5_callOf 29 = .ok (.goto 4, 3) := by decide +kernel
theorem dX5_callOf_32 : decode cX5_callOf 32 = .ok (.lload_n 2, 1) := by decide +kernel
theorem dX5_callOf_33 : decode cX5_callOf 33 = .ok (.lreturn, 1) := by decide +kernel
theorem dX5_called_0 : decode cX5_called 0 = .ok (.aload_n 0, 1) := by decide +kernel
theorem dX5_called_1 : decode cX5_called 1 = .ok (.aload_n 0, 1) := by decide +kernel
theorem dX5_called_2 : decode cX5_called 2 = .ok (.iload_n 1, 1) := by decide +kernel
theorem dX5_called_3 : decode cX5_called 3 = .ok (.invokevirtual 100, 3) := by decide +kernel
theorem dX5_called_6 : decode cX5_called 6 = .ok (.ifCond .eq 7, 3) := by decide +kernel
theorem dX5_called_9 : decode cX5_called 9 = .ok (.iconst 0, 1) := by decide +kernel
theorem dX5_called_10 : decode cX5_called 10 = .ok (.goto 4, 3) := by decide +kernel
theorem dX5_called_13 : decode cX5_called 13 = .ok (.iconst 1, 1) := by decide +kernel
theorem dX5_called_14 : decode cX5_called 14 = .ok (.putfield 62, 3) := by decide +kernel
theorem dX5_called_17 : decode cX5_called 17 = .ok (.aload_n 0, 1) := by decide +kernel
theorem dX5_called_18 : decode cX5_called 18 = .ok (.getfield 62, 3) := by decide +kernel
theorem dX5_called_21 : decode cX5_called 21 = .ok (.ifCond .le 7, 3) := by decide +kernel
theorem dX5_called_24 : decode cX5_called 24 = .ok (.lconst 0, 1) := by decide +kernel
theorem dX5_called_25 : decode cX5_called 25 = .ok (.goto 8, 3) := by decide +kernel
theorem dX5_called_28 : decode cX5_called 28 = .ok (.aload_n 0, 1) := by decide +kernel
theorem dX5_called_29 : decode cX5_called 29 = .ok (.iload_n 1, 1) := by decide +kernel
theorem dX5_called_30 : decode cX5_called 30 = .ok (.invokevirtual 114, 3) := by decide +kernel
theorem dX5_called_33 : decode cX5_called 33 = .ok (.lreturn, 1) := by decide +kernel
theorem dX5_declare_0 : decode cX5_declare 0 = .ok (.aload_n 0, 1) := by decide +kernel
theorem dX5_declare_1 : decode cX5_declare 1 = .ok (.iconst 0, 1) := by decide +kernel
theorem dX5_declare_2 : decode cX5_declare 2 = .ok (.putfield 62, 3) := by decide +kernel
theorem dX5_declare_5 : decode cX5_declare 5 = .ok (.iconst 0, 1) := by decide +kernel
theorem dX5_declare_6 : decode cX5_declare 6 = .ok (.istore_n 1, 1) := by decide +kernel
theorem dX5_declare_7 : decode cX5_declare 7 = .ok (.iconst 0, 1) := by decide +kernel
theorem dX5_declare_8 : decode cX5_declare 8 = .ok (.istore_n 2, 1) := by decide +kernel
theorem dX5_declare_9 : decode cX5_declare 9 = .ok (.iload_n 2, 1) := by decide +kernel
theorem dX5_declare_10 : decode cX5_declare 10 = .ok (.aload_n 0, 1) := by decide +kernel
theorem dX5_declare_11 : decode cX5_declare 11 = .ok (.getfield 66, 3) := by decide +kernel
theorem dX5_declare_14 : decode cX5_declare 14 = .ok (.if_icmp .ge 29, 3) := by decide +kernel
theorem dX5_declare_17 : decode cX5_declare 17 = .ok (.aload_n 0, 1) := by decide +kernel
theorem dX5_declare_18 : decode cX5_declare 18 = .ok (.iload_n 2, 1) := by decide +kernel
theorem dX5_declare_19 : decode cX5_declare 19 = .ok (.invokevirtual 114, 3) := by decide +kernel
theorem dX5_declare_22 : decode cX5_declare 22 = .ok (.lconst 0, 1) := by decide +kernel
theorem dX5_declare_23 : decode cX5_declare 23 = .ok (.lcmp, 1) := by decide +kernel
theorem dX5_declare_24 : decode cX5_declare 24 = .ok (.ifCond .le 13, 3) := by decide +kernel
theorem dX5_declare_27 : decode cX5_declare 27 = .ok (.aload_n 0, 1) := by decide +kernel
theorem dX5_declare_28 : decode cX5_declare 28 = .ok (.getfield 16, 3) := by decide +kernel
theorem dX5_declare_31 : decode cX5_declare 31 = .ok (.iload_n 2, 1) := by decide +kernel
theorem dX5_declare_32 : decode cX5_declare 32 = .ok (.iconst 1, 1) := by decide +kernel
theorem dX5_declare_33 : decode cX5_declare 33 = .ok (.iastore, 1) := by decide +kernel
theorem dX5_declare_34 : decode cX5_declare 34 = .ok (.iinc 1 1, 3) := by decide +kernel
theorem dX5_declare_37 : decode cX5_declare 37 = .ok (.iinc 2 1, 3) := by decide +kernel
theorem dX5_declare_40 : decode cX5_declare 40 = .ok (.goto (-31), 3) := by decide +kernel
theorem dX5_declare_43 : decode cX5_declare 43 = .ok (.iload_n 1, 1) := by decide +kernel
theorem dX5_declare_44 : decode cX5_declare 44 = .ok (.ireturn, 1) := by decide +kernel
theorem dX5_change_0 : decode cX5_change 0 = .ok (.aload_n 0, 1) := by decide +kernel
theorem dX5_change_1 : decode cX5_change 1 = .ok (.getfield 7, 3) := by decide +kernel
theorem dX5_change_4 : decode cX5_change 4 = .ok (.iload_n 1, 1) := by decide +kernel
theorem dX5_change_5 : decode cX5_change 5 = .ok (.aload_n 0, 1) := by decide +kernel
theorem dX5_change_6 : decode cX5_change 6 = .ok (.getfield 7, 3) := by decide +kernel
theorem dX5_change_9 : decode cX5_change 9 = .ok (.iload_n 1, 1) := by decide +kernel
theorem dX5_change_10 : decode cX5_change 10 = .ok (.laload, 1) := by decide +kernel
theorem dX5_change_11 : decode cX5_change 11 = .ok (.lload_n 2, 1) := by decide +kernel
theorem dX5_change_12 : decode cX5_change 12 = .ok (.ladd, 1) := by decide +kernel
theorem dX5_change_13 : decode cX5_change 13 = .ok (.lastore, 1) := by decide +kernel
theorem dX5_change_14 : decode cX5_change 14 = .ok (.aload_n 0, 1) := by decide +kernel
theorem dX5_change_15 : decode cX5_change 15 = .ok (.aload_n 0, 1) := by decide +kernel
theorem dX5_change_16 : decode cX5_change 16 = .ok (.getfield 117, 3) := by decide +kernel
theorem dX5_change_19 : decode cX5_change 19 = .ok (.ifCond .ne 15, 3) := by decide +kernel
theorem dX5_change_22 : decode cX5_change 22 = .ok (.aload_n 0, 1) := by decide +kernel
theorem dX5_change_23 : decode cX5_change 23 = .ok (.getfield 7, 3) := by decide +kernel
theorem dX5_change_26 : decode cX5_change 26 = .ok (.iload_n 1, 1) := by decide +kernel
theorem dX5_change_27 : decode cX5_change 27 = .ok (.laload, 1) := by decide +kernel
theorem dX5_change_28 : decode cX5_change 28 = .ok (.invokestatic 88, 3) := by decide +kernel
theorem dX5_change_31 : decode cX5_change 31 = .ok (.ifCond .eq 7, 3) := by decide +kernel
theorem dX5_change_34 : decode cX5_change 34 = .ok (.iconst 1, 1) := by decide +kernel
theorem dX5_change_35 : decode cX5_change 35 = .ok (.goto 4, 3) := by decide +kernel
theorem dX5_change_38 : decode cX5_change 38 = .ok (.iconst 0, 1) := by decide +kernel
theorem dX5_change_39 : decode cX5_change 39 = .ok (.putfield 117, 3) := by decide +kernel
theorem dX5_change_42 : decode cX5_change 42 = .ok (.return_, 1) := by decide +kernel
theorem dX5_bestBid_0 : decode cX5_bestBid 0 = .ok (.iconst (-1), 1) := by decide +kernel
theorem dX5_bestBid_1 : decode cX5_bestBid 1 = .ok (.istore_n 2, 1) := by decide +kernel
theorem dX5_bestBid_2 : decode cX5_bestBid 2 = .ok (.iconst 0, 1) := by decide +kernel
theorem dX5_bestBid_3 : decode cX5_bestBid 3 = .ok (.istore_n 3, 1) := by decide +kernel
theorem dX5_bestBid_4 : decode cX5_bestBid 4 = .ok (.iload_n 3, 1) := by decide +kernel
theorem dX5_bestBid_5 : decode cX5_bestBid 5 = .ok (.aload_n 0, 1) := by decide +kernel
theorem dX5_bestBid_6 : decode cX5_bestBid 6 = .ok (.getfield 66, 3) := by decide +kernel
theorem dX5_bestBid_9 : decode cX5_bestBid 9 = .ok (.if_icmp .ge 49, 3) := by decide +kernel
theorem dX5_bestBid_12 : decode cX5_bestBid 12 = .ok (.aload_n 0, 1) := by decide +kernel
theorem dX5_bestBid_13 : decode cX5_bestBid 13 = .ok (.getfield 16, 3) := by decide +kernel
theorem dX5_bestBid_16 : decode cX5_bestBid 16 = .ok (.iload_n 3, 1) := by decide +kernel
theorem dX5_bestBid_17 : decode cX5_bestBid 17 = .ok (.iaload, 1) := by decide +kernel
theorem dX5_bestBid_18 : decode cX5_bestBid 18 = .ok (.ifCond .ne 34, 3) := by decide +kernel
theorem dX5_bestBid_21 : decode cX5_bestBid 21 = .ok (.iload_n 2, 1) := by decide +kernel
theorem dX5_bestBid_22 : decode cX5_bestBid 22 = .ok (.ifCond .lt 28, 3) := by decide +kernel
theorem dX5_bestBid_25 : decode cX5_bestBid 25 = .ok (.aload_n 0, 1) := by decide +kernel
theorem dX5_bestBid_26 : decode cX5_bestBid 26 = .ok (.getfield 23, 3) := by decide +kernel
theorem dX5_bestBid_29 : decode cX5_bestBid 29 = .ok (.bipush 6, 2) := by decide +kernel
theorem dX5_bestBid_31 : decode cX5_bestBid 31 = .ok (.iload_n 3, 1) := by decide +kernel
theorem dX5_bestBid_32 : decode cX5_bestBid 32 = .ok (.imul, 1) := by decide +kernel
theorem dX5_bestBid_33 : decode cX5_bestBid 33 = .ok (.iload_n 1, 1) := by decide +kernel
theorem dX5_bestBid_34 : decode cX5_bestBid 34 = .ok (.iadd, 1) := by decide +kernel
theorem dX5_bestBid_35 : decode cX5_bestBid 35 = .ok (.iaload, 1) := by decide +kernel
theorem dX5_bestBid_36 : decode cX5_bestBid 36 = .ok (.aload_n 0, 1) := by decide +kernel
theorem dX5_bestBid_37 : decode cX5_bestBid 37 = .ok (.getfield 23, 3) := by decide +kernel
theorem dX5_bestBid_40 : decode cX5_bestBid 40 = .ok (.bipush 6, 2) := by decide +kernel
theorem dX5_bestBid_42 : decode cX5_bestBid 42 = .ok (.iload_n 2, 1) := by decide +kernel
theorem dX5_bestBid_43 : decode cX5_bestBid 43 = .ok (.imul, 1) := by decide +kernel
theorem dX5_bestBid_44 : decode cX5_bestBid 44 = .ok (.iload_n 1, 1) := by decide +kernel
theorem dX5_bestBid_45 : decode cX5_bestBid 45 = .ok (.iadd, 1) := by decide +kernel
theorem dX5_bestBid_46 : decode cX5_bestBid 46 = .ok (.iaload, 1) := by decide +kernel
theorem dX5_bestBid_47 : decode cX5_bestBid 47 = .ok (.if_icmp .ge 5, 3) := by decide +kernel
