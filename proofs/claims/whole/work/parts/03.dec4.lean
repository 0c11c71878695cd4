theorem dX5_bestBid_50 : decode cX5_bestBid 50 = .ok (.iload_n 3, 1) := by decide +kernel
theorem dX5_bestBid_51 : decode cX5_bestBid 51 = .ok (.istore_n 2, 1) := by decide +kernel
theorem dX5_bestBid_52 : decode cX5_bestBid 52 = .ok (.iinc 3 1, 3) := by decide +kernel
theorem dX5_bestBid_55 : decode cX5_bestBid 55 = .ok (.goto (-51), 3) := by decide +kernel
theorem dX5_bestBid_58 : decode cX5_bestBid 58 = .ok (.iload_n 2, 1) := by decide +kernel
theorem dX5_bestBid_59 : decode cX5_bestBid 59 = .ok (.ireturn, 1) := by decide +kernel
theorem dX5_give_0 : decode cX5_give 0 = .ok (.aload_n 0, 1) := by decide +kernel
theorem dX5_give_1 : decode cX5_give 1 = .ok (.getfield 20, 3) := by decide +kernel
theorem dX5_give_4 : decode cX5_give 4 = .ok (.bipush 6, 2) := by decide +kernel
theorem dX5_give_6 : decode cX5_give 6 = .ok (.iload_n 1, 1) := by decide +kernel
theorem dX5_give_7 : decode cX5_give 7 = .ok (.imul, 1) := by decide +kernel
theorem dX5_give_8 : decode cX5_give 8 = .ok (.iload_n 2, 1) := by decide +kernel
theorem dX5_give_9 : decode cX5_give 9 = .ok (.iadd, 1) := by decide +kernel
theorem dX5_give_10 : decode cX5_give 10 = .ok (.iaload, 1) := by decide +kernel
theorem dX5_give_11 : decode cX5_give 11 = .ok (.istore_n 3, 1) := by decide +kernel
theorem dX5_give_12 : decode cX5_give 12 = .ok (.iload_n 3, 1) := by decide +kernel
theorem dX5_give_13 : decode cX5_give 13 = .ok (.ifCond .ne 4, 3) := by decide +kernel
theorem dX5_give_16 : decode cX5_give 16 = .ok (.return_, 1) := by decide +kernel
theorem dX5_give_17 : decode cX5_give 17 = .ok (.aload_n 0, 1) := by decide +kernel
theorem dX5_give_18 : decode cX5_give 18 = .ok (.iload_n 2, 1) := by decide +kernel
theorem dX5_give_19 : decode cX5_give 19 = .ok (.invokevirtual 121, 3) := by decide +kernel
theorem dX5_give_22 : decode cX5_give 22 = .ok (.istore 4, 2) := by decide +kernel
theorem dX5_give_24 : decode cX5_give 24 = .ok (.iload 4, 2) := by decide +kernel
theorem dX5_give_26 : decode cX5_give 26 = .ok (.ifCond .ge 9, 3) := by decide +kernel
theorem dX5_give_29 : decode cX5_give 29 = .ok (.aload_n 0, 1) := by decide +kernel
theorem dX5_give_30 : decode cX5_give 30 = .ok (.iconst 1, 1) := by decide +kernel
theorem dX5_give_31 : decode cX5_give 31 = .ok (.putfield 117, 3) := by decide +kernel
theorem dX5_give_34 : decode cX5_give 34 = .ok (.return_, 1) := by decide +kernel
theorem dX5_give_35 : decode cX5_give 35 = .ok (.aload_n 0, 1) := by decide +kernel
theorem dX5_give_36 : decode cX5_give 36 = .ok (.getfield 23, 3) := by decide +kernel
theorem dX5_give_39 : decode cX5_give 39 = .ok (.bipush 6, 2) := by decide +kernel
theorem dX5_give_41 : decode cX5_give 41 = .ok (.iload 4, 2) := by decide +kernel
theorem dX5_give_43 : decode cX5_give 43 = .ok (.imul, 1) := by decide +kernel
theorem dX5_give_44 : decode cX5_give 44 = .ok (.iload_n 2, 1) := by decide +kernel
theorem dX5_give_45 : decode cX5_give 45 = .ok (.iadd, 1) := by decide +kernel
theorem dX5_give_46 : decode cX5_give 46 = .ok (.iaload, 1) := by decide +kernel
theorem dX5_give_47 : decode cX5_give 47 = .ok (.i2l, 1) := by decide +kernel
theorem dX5_give_48 : decode cX5_give 48 = .ok (.iload_n 3, 1) := by decide +kernel
theorem dX5_give_49 : decode cX5_give 49 = .ok (.ifCond .ge 8, 3) := by decide +kernel
theorem dX5_give_52 : decode cX5_give 52 = .ok (.iload_n 3, 1) := by decide +kernel
theorem dX5_give_53 : decode cX5_give 53 = .ok (.ineg, 1) := by decide +kernel
theorem dX5_give_54 : decode cX5_give 54 = .ok (.goto 4, 3) := by decide +kernel
theorem dX5_give_57 : decode cX5_give 57 = .ok (.iload_n 3, 1) := by decide +kernel
theorem dX5_give_58 : decode cX5_give 58 = .ok (.i2l, 1) := by decide +kernel
theorem dX5_give_59 : decode cX5_give 59 = .ok (.lmul, 1) := by decide +kernel
theorem dX5_give_60 : decode cX5_give 60 = .ok (.lstore 5, 2) := by decide +kernel
theorem dX5_give_62 : decode cX5_give 62 = .ok (.aload_n 0, 1) := by decide +kernel
theorem dX5_give_63 : decode cX5_give 63 = .ok (.getfield 20, 3) := by decide +kernel
theorem dX5_give_66 : decode cX5_give 66 = .ok (.bipush 6, 2) := by decide +kernel
theorem dX5_give_68 : decode cX5_give 68 = .ok (.iload 4, 2) := by decide +kernel
theorem dX5_give_70 : decode cX5_give 70 = .ok (.imul, 1) := by decide +kernel
theorem dX5_give_71 : decode cX5_give 71 = .ok (.iload_n 2, 1) := by decide +kernel
theorem dX5_give_72 : decode cX5_give 72 = .ok (.iadd, 1) := by decide +kernel
theorem dX5_give_73 : decode cX5_give 73 = .ok (.iaload, 1) := by decide +kernel
theorem dX5_give_74 : decode cX5_give 74 = .ok (.iload_n 3, 1) := by decide +kernel
theorem dX5_give_75 : decode cX5_give 75 = .ok (.iadd, 1) := by decide +kernel
theorem dX5_give_76 : decode cX5_give 76 = .ok (.istore 7, 2) := by decide +kernel
theorem dX5_give_78 : decode cX5_give 78 = .ok (.aload_n 0, 1) := by decide +kernel
theorem dX5_give_79 : decode cX5_give 79 = .ok (.aload_n 0, 1) := by decide +kernel
theorem dX5_give_80 : decode cX5_give 80 = .ok (.getfield 117, 3) := by decide +kernel
theorem dX5_give_83 : decode cX5_give 83 = .ok (.ifCond .ne 17, 3) := by decide +kernel
theorem dX5_give_86 : decode cX5_give 86 = .ok (.iload 7, 2) := by decide +kernel
theorem dX5_give_88 : decode cX5_give 88 = .ok (.ldc 109, 2) := by decide +kernel
theorem dX5_give_90 : decode cX5_give 90 = .ok (.if_icmp .gt 10, 3) := by decide +kernel
theorem dX5_give_93 : decode cX5_give 93 = .ok (.iload 7, 2) := by decide +kernel
theorem dX5_give_95 : decode cX5_give 95 = .ok (.ldc 110, 2) := by decide +kernel
theorem dX5_give_97 : decode cX5_give 97 = .ok (.if_icmp .ge 7, 3) := by decide +kernel
theorem dX5_give_100 : decode cX5_give 100 = .ok (.iconst 1, 1) := by decide +kernel
theorem dX5_give_101 : decode cX5_give 101 = .ok (.goto 4, 3) := by decide +kernel
theorem dX5_give_104 : decode cX5_give 104 = .ok (.iconst 0, 1) := by decide +kernel
theorem dX5_give_105 : decode cX5_give 105 = .ok (.putfield 117, 3) := by decide +kernel
theorem dX5_give_108 : decode cX5_give 108 = .ok (.aload_n 0, 1) := by decide +kernel
theorem dX5_give_109 : decode cX5_give 109 = .ok (.getfield 20, 3) := by decide +kernel
theorem dX5_give_112 : decode cX5_give 112 = .ok (.bipush 6, 2) := by decide +kernel
theorem dX5_give_114 : decode cX5_give 114 = .ok (.iload 4, 2) := by decide +kernel
theorem dX5_give_116 : decode cX5_give 116 = .ok (.imul, 1) := by decide +kernel
theorem dX5_give_117 : decode cX5_give 117 = .ok (.iload_n 2, 1) := by decide +kernel
theorem dX5_give_118 : decode cX5_give 118 = .ok (.iadd, 1) := by decide +kernel
theorem dX5_give_119 : decode cX5_give 119 = .ok (.iload 7, 2) := by decide +kernel
theorem dX5_give_121 : decode cX5_give 121 = .ok (.iastore, 1) := by decide +kernel
theorem dX5_give_122 : decode cX5_give 122 = .ok (.aload_n 0, 1) := by decide +kernel
theorem dX5_give_123 : decode cX5_give 123 = .ok (.getfield 20, 3) := by decide +kernel
theorem dX5_give_126 : decode cX5_give 126 = .ok (.bipush 6, 2) := by decide +kernel
theorem dX5_give_128 : decode cX5_give 128 = .ok (.iload_n 1, 1) := by decide +kernel
theorem dX5_give_129 : decode cX5_give 129 = .ok (.imul, 1) := by decide +kernel
theorem dX5_give_130 : decode cX5_give 130 = .ok (.iload_n 2, 1) := by decide +kernel
theorem dX5_give_131 : decode cX5_give 131 = .ok (.iadd, 1) := by decide +kernel
theorem dX5_give_132 : decode cX5_give 132 = .ok (.iconst 0, 1) := by decide +kernel
theorem dX5_give_133 : decode cX5_give 133 = .ok (.iastore, 1) := by decide +kernel
theorem dX5_give_134 : decode cX5_give 134 = .ok (.aload_n 0, 1) := by decide +kernel
theorem dX5_give_135 : decode cX5_give 135 = .ok (.iload 4, 2) := by decide +kernel
theorem dX5_give_137 : decode cX5_give 137 = .ok (.lload 5, 2) := by decide +kernel
theorem dX5_give_139 : decode cX5_give 139 = .ok (.invokevirtual 125, 3) := by decide +kernel
theorem dX5_give_142 : decode cX5_give 142 = .ok (.aload_n 0, 1) := by decide +kernel
theorem dX5_give_143 : decode cX5_give 143 = .ok (.iload_n 1, 1) := by decide +kernel
theorem dX5_give_144 : decode cX5_give 144 = .ok (.lload 5, 2) := by decide +kernel
theorem dX5_give_146 : decode cX5_give 146 = .ok (.lneg, 1) := by decide +kernel
theorem dX5_give_147 : decode cX5_give 147 = .ok (.invokevirtual 125, 3) := by decide +kernel
theorem dX5_give_150 : decode cX5_give 150 = .ok (.return_, 1) := by decide +kernel
theorem dX5_divide_0 : decode cX5_divide 0 = .ok (.lconst 0, 1) := by decide +kernel
theorem dX5_divide_1 : decode cX5_divide 1 = .ok (.lstore 6, 2) := by decide +kernel
theorem dX5_divide_3 : decode cX5_divide 3 = .ok (.lconst 0, 1) := by decide +kernel
theorem dX5_divide_4 : decode cX5_divide 4 = .ok (.lstore 8, 2) := by decide +kernel
theorem dX5_divide_6 : decode cX5_divide 6 = .ok (.bipush 62, 2) := by decide +kernel
theorem dX5_divide_8 : decode cX5_divide 8 = .ok (.istore 10, 2) := by decide +kernel
theorem dX5_divide_10 : decode cX5_divide 10 = .ok (.iload 10, 2) := by decide +kernel
theorem dX5_divide_12 : decode cX5_divide 12 = .ok (.ifCond .lt 89, 3) := by decide +kernel
theorem dX5_divide_15 : decode cX5_divide 15 = .ok (.ldc2_w 129, 3) := by decide +kernel
theorem dX5_divide_18 : decode cX5_divide 18 = .ok (.lload 6, 2) := by decide +kernel
theorem dX5_divide_20 : decode cX5_divide 20 = .ok (.lmul, 1) := by decide +kernel
theorem dX5_divide_21 : decode cX5_divide 21 = .ok (.lstore 6, 2) := by decide +kernel
theorem dX5_divide_23 : decode cX5_divide 23 = .ok (.ldc2_w 129, 3) := by decide +kernel
theorem dX5_divide_26 : decode cX5_divide 26 = .ok (.lload 8, 2) := by decide +kernel
theorem dX5_divide_28 : decode cX5_divide 28 = .ok (.lmul, 1) := by decide +kernel
theorem dX5_divide_29 : decode cX5_divide 29 = .ok (.lstore 8, 2) := by decide +kernel
theorem dX5_divide_31 : decode cX5_divide 31 = .ok (.lload 8, 2) := by decide +kernel
theorem dX5_divide_33 : decode cX5_divide 33 = .ok (.lload 4, 2) := by decide +kernel
theorem dX5_divide_35 : decode cX5_divide 35 = .ok (.lcmp, 1) := by decide +kernel
theorem dX5_divide_36 : decode cX5_divide 36 = .ok (.ifCond .lt 16, 3) := by decide +kernel
theorem dX5_divide_39 : decode cX5_divide 39 = .ok (.lload 8, 2) := by decide +kernel
theorem dX5_divide_41 : decode cX5_divide 41 = .ok (.lload 4, 2) := by decide +kernel
theorem dX5_divide_43 : decode cX5_divide 43 = .ok (.lsub, 1) := by decide +kernel
theorem dX5_divide_44 : decode cX5_divide 44 = .ok (.lstore 8, 2) := by decide +kernel
theorem dX5_divide_46 : decode cX5_divide 46 = .ok (.lload 6, 2) := by decide +kernel
theorem dX5_divide_48 : decode cX5_divide 48 = .ok (.lconst 1, 1) := by decide +kernel
theorem dX5_divide_49 : decode cX5_divide 49 = .ok (.ladd, 1) := by decide +kernel
theorem dX5_divide_50 : decode cX5_divide 50 = .ok (.lstore 6, 2) := by decide +kernel
theorem dX5_divide_52 : decode cX5_divide 52 = .ok (.lload_n 2, 1) := by decide +kernel
theorem dX5_divide_53 : decode cX5_divide 53 = .ok (.iload 10, 2) := by decide +kernel
theorem dX5_divide_55 : decode cX5_divide 55 = .ok (.lshr, 1) := by decide +kernel
theorem dX5_divide_56 : decode cX5_divide 56 = .ok (.lconst 1, 1) := by decide +kernel
theorem dX5_divide_57 : decode cX5_divide 57 = .ok (.land, 1) := by decide +kernel
theorem dX5_divide_58 : decode cX5_divide 58 = .ok (.lconst 1, 1) := by decide +kernel
theorem dX5_divide_59 : decode cX5_divide 59 = .ok (.lcmp, 1) := by decide +kernel
theorem dX5_divide_60 : decode cX5_divide 60 = .ok (.ifCond .ne 35, 3) := by decide +kernel
theorem dX5_divide_63 : decode cX5_divide 63 = .ok (.lload 8, 2) := by decide +kernel
theorem dX5_divide_65 : decode cX5_divide 65 = .ok (.aload_n 0, 1) := by decide +kernel
theorem dX5_divide_66 : decode cX5_divide 66 = .ok (.getfield 53, 3) := by decide +kernel
theorem dX5_divide_69 : decode cX5_divide 69 = .ok (.iload_n 1, 1) := by decide +kernel
theorem dX5_divide_70 : decode cX5_divide 70 = .ok (.laload, 1) := by decide +kernel
theorem dX5_divide_71 : decode cX5_divide 71 = .ok (.ladd, 1) := by decide +kernel
theorem dX5_divide_72 : decode cX5_divide 72 = .ok (.lstore 8, 2) := by decide +kernel
theorem dX5_divide_74 : decode cX5_divide 74 = .ok (.lload 8, 2) := by decide +kernel
theorem dX5_divide_76 : decode cX5_divide 76 = .ok (.lload 4, 2) := by decide +kernel
theorem dX5_divide_78 : decode cX5_divide 78 = .ok (.lcmp, 1) := by decide +kernel
theorem dX5_divide_79 : decode cX5_divide 79 = .ok (.ifCond .lt 16, 3) := by decide +kernel
theorem dX5_divide_82 : decode cX5_divide 82 = .ok (.lload 8, 2) := by decide +kernel
theorem dX5_divide_84 : decode cX5_divide 84 = .ok (.lload 4, 2) := by decide +kernel
theorem dX5_divide_86 : decode cX5_divide 86 = .ok (.lsub, 1) := by decide +kernel
theorem dX5_divide_87 : decode cX5_divide 87 = .ok (.lstore 8, 2) := by decide +kernel
theorem dX5_divide_89 : decode cX5_divide 89 = .ok (.lload 6, 2) := by decide +kernel
theorem dX5_divide_91 : decode cX5_divide 91 = .ok (.lconst 1, 1) := by decide +kernel
theorem dX5_divide_92 : decode cX5_divide 92 = .ok (.ladd, 1) := by decide +kernel
theorem dX5_divide_93 : decode cX5_divide 93 = .ok (.lstore 6, 2) := by decide +kernel
theorem dX5_divide_95 : decode cX5_divide 95 = .ok (.iinc 10 (-1), 3) := by decide +kernel
theorem dX5_divide_98 : decode cX5_divide 98 = .ok (.goto (-88), 3) := by decide +kernel
theorem dX5_divide_101 : decode cX5_divide 101 = .ok (.aload_n 0, 1) := by decide +kernel
theorem dX5_divide_102 : decode cX5_divide 102 = .ok (.getfield 56, 3) := by decide +kernel
theorem dX5_divide_105 : decode cX5_divide 105 = .ok (.iload_n 1, 1) := by decide +kernel
theorem dX5_divide_106 : decode cX5_divide 106 = .ok (.lload 6, 2) := by decide +kernel
theorem dX5_divide_108 : decode cX5_divide 108 = .ok (.lastore, 1) := by decide +kernel
theorem dX5_divide_109 : decode cX5_divide 109 = .ok (.aload_n 0, 1) := by decide +kernel
theorem dX5_divide_110 : decode cX5_divide 110 = .ok (.getfield 59, 3) := by decide +kernel
theorem dX5_divide_113 : decode cX5_divide 113 = .ok (.iload_n 1, 1) := by decide +kernel
theorem dX5_divide_114 : decode cX5_divide 114 = .ok (.lload 8, 2) := by decide +kernel
theorem dX5_divide_116 : decode cX5_divide 116 = .ok (.lastore, 1) := by decide +kernel
theorem dX5_divide_117 : decode cX5_divide 117 = .ok (.return_, 1) := by decide +kernel
theorem dX5_share_0 : decode cX5_share 0 = .ok (.lconst 0, 1) := by decide +kernel
theorem dX5_share_1 : decode cX5_share 1 = .ok (.lstore_n 3, 1) := by decide +kernel
theorem dX5_share_2 : decode cX5_share 2 = .ok (.iconst 0, 1) := by decide +kernel
theorem dX5_share_3 : decode cX5_share 3 = .ok (.istore 5, 2) := by decide +kernel
theorem dX5_share_5 : decode cX5_share 5 = .ok (.iload 5, 2) := by decide +kernel
theorem dX5_share_7 : decode cX5_share 7 = .ok (.bipush 8, 2) := by decide +kernel
theorem dX5_share_9 : decode cX5_share 9 = .ok (.if_icmp .ge 35, 3) := by decide +kernel
theorem dX5_share_12 : decode cX5_share 12 = .ok (.lload_n 3, 1) := by decide +kernel
theorem dX5_share_13 : decode cX5_share 13 = .ok (.aload_n 0, 1) := by decide +kernel
theorem dX5_share_14 : decode cX5_share 14 = .ok (.getfield 53, 3) := by decide +kernel
theorem dX5_share_17 : decode cX5_share 17 = .ok (.iload 5, 2) := by decide +kernel
theorem dX5_share_19 : decode cX5_share 19 = .ok (.laload, 1) := by decide +kernel
theorem dX5_share_20 : decode cX5_share 20 = .ok (.ladd, 1) := by decide +kernel
theorem dX5_share_21 : decode cX5_share 21 = .ok (.lstore_n 3, 1) := by decide +kernel
theorem dX5_share_22 : decode cX5_share 22 = .ok (.aload_n 0, 1) := by decide +kernel
theorem dX5_share_23 : decode cX5_share 23 = .ok (.getfield 56, 3) := by decide +kernel
theorem dX5_share_26 : decode cX5_share 26 = .ok (.iload 5, 2) := by decide +kernel
theorem dX5_share_28 : decode cX5_share 28 = .ok (.lconst 0, 1) := by decide +kernel
theorem dX5_share_29 : decode cX5_share 29 = .ok (.lastore, 1) := by decide +kernel
theorem dX5_share_30 : decode cX5_share 30 = .ok (.aload_n 0, 1) := by decide +kernel
theorem dX5_share_31 : decode cX5_share 31 = .ok (.getfield 59, 3) := by decide +kernel
theorem dX5_share_34 : decode cX5_share 34 = .ok (.iload 5, 2) := by decide +kernel
theorem dX5_share_36 : decode cX5_share 36 = .ok (.lconst 0, 1) := by decide +kernel
theorem dX5_share_37 : decode cX5_share 37 = .ok (.lastore, 1) := by decide +kernel
theorem dX5_share_38 : decode cX5_share 38 = .ok (.iinc 5 1, 3) := by decide +kernel
theorem dX5_share_41 : decode cX5_share 41 = .ok (.goto (-36), 3) := by decide +kernel
theorem dX5_share_44 : decode cX5_share 44 = .ok (.lload_n 3, 1) := by decide +kernel
theorem dX5_share_45 : decode cX5_share 45 = .ok (.lload_n 1, 1) := by decide +kernel
theorem dX5_share_46 : decode cX5_share 46 = .ok (.lcmp, 1) := by decide +kernel
theorem dX5_share_47 : decode cX5_share 47 = .ok (.ifCond .gt 35, 3) := by decide +kernel
theorem dX5_share_50 : decode cX5_share 50 = .ok (.iconst 0, 1) := by decide +kernel
theorem dX5_share_51 : decode cX5_share 51 = .ok (.istore 5, 2) := by decide +kernel
theorem dX5_share_53 : decode cX5_share 53 = .ok (.iload 5, 2) := by decide +kernel
theorem dX5_share_55 : decode cX5_share 55 = .ok (.bipush 8, 2) := by decide +kernel
theorem dX5_share_57 : decode cX5_share 57 = .ok (.if_icmp .ge 23, 3) := by decide +kernel
theorem dX5_share_60 : decode cX5_share 60 = .ok (.aload_n 0, 1) := by decide +kernel
theorem dX5_share_61 : decode cX5_share 61 = .ok (.getfield 56, 3) := by decide +kernel
theorem dX5_share_64 : decode cX5_share 64 = .ok (.iload 5, 2) := by decide +kernel
theorem dX5_share_66 : decode cX5_share 66 = .ok (.aload_n 0, 1) := by decide +kernel
theorem dX5_share_67 : decode cX5_share 67 = .ok (.getfield 53, 3) := by decide +kernel
theorem dX5_share_70 : decode cX5_share 70 = .ok (.iload 5, 2) := by decide +kernel
theorem dX5_share_72 : decode cX5_share 72 = .ok (.laload, 1) := by decide +kernel
theorem dX5_share_73 : decode cX5_share 73 = .ok (.lastore, 1) := by decide +kernel
theorem dX5_share_74 : decode cX5_share 74 = .ok (.iinc 5 1, 3) := by decide +kernel
theorem dX5_share_77 : decode cX5_share 77 = .ok (.goto (-24), 3) := by decide +kernel
theorem dX5_share_80 : decode cX5_share 80 = .ok (.lload_n 3, 1) := by decide +kernel
theorem dX5_share_81 : decode cX5_share 81 = .ok (.lreturn, 1) := by decide +kernel
theorem dX5_share_82 : decode cX5_share 82 = .ok (.lload_n 1, 1) := by decide +kernel
theorem dX5_share_83 : decode cX5_share 83 = .ok (.lstore 5, 2) := by decide +kernel
theorem dX5_share_85 : decode cX5_share 85 = .ok (.iconst 0, 1) := by decide +kernel
theorem dX5_share_86 : decode cX5_share 86 = .ok (.istore 7, 2) := by decide +kernel
theorem dX5_share_88 : decode cX5_share 88 = .ok (.iload 7, 2) := by decide +kernel
theorem dX5_share_90 : decode cX5_share 90 = .ok (.bipush 8, 2) := by decide +kernel
theorem dX5_share_92 : decode cX5_share 92 = .ok (.if_icmp .ge 29, 3) := by decide +kernel
theorem dX5_share_95 : decode cX5_share 95 = .ok (.aload_n 0, 1) := by decide +kernel
theorem dX5_share_96 : decode cX5_share 96 = .ok (.iload 7, 2) := by decide +kernel
theorem dX5_share_98 : decode cX5_share 98 = .ok (.lload_n 1, 1) := by decide +kernel
theorem dX5_share_99 : decode cX5_share 99 = .ok (.lload_n 3, 1) := by decide +kernel
theorem dX5_share_100 : decode cX5_share 100 = .ok (.invokevirtual 131, 3) := by decide +kernel
theorem dX5_share_103 : decode cX5_share 103 = .ok (.lload 5, 2) := by decide +kernel
theorem dX5_share_105 : decode cX5_share 105 = .ok (.aload_n 0, 1) := by decide +kernel
theorem dX5_share_106 : decode cX5_share 106 = .ok (.getfield 56, 3) := by decide +kernel
theorem dX5_share_109 : decode cX5_share 109 = .ok (.iload 7, 2) := by decide +kernel
theorem dX5_share_111 : decode cX5_share 111 = .ok (.laload, 1) := by decide +kernel
theorem dX5_share_112 : decode cX5_share 112 = .ok (.lsub, 1) := by decide +kernel
theorem dX5_share_113 : decode cX5_share 113 = .ok (.lstore 5, 2) := by decide +kernel
theorem dX5_share_115 : decode cX5_share 115 = .ok (.iinc 7 1, 3) := by decide +kernel
theorem dX5_share_118 : decode cX5_share 118 = .ok (.goto (-30), 3) := by decide +kernel
theorem dX5_share_121 : decode cX5_share 121 = .ok (.lload 5, 2) := by decide +kernel
theorem dX5_share_123 : decode cX5_share 123 = .ok (.lconst 0, 1) := by decide +kernel
theorem dX5_share_124 : decode cX5_share 124 = .ok (.lcmp, 1) := by decide +kernel
theorem dX5_share_125 : decode cX5_share 125 = .ok (.ifCond .le 79, 3) := by decide +kernel
theorem dX5_share_128 : decode cX5_share 128 = .ok (.iconst 0, 1) := by decide +kernel
theorem dX5_share_129 : decode cX5_share 129 = .ok (.istore 7, 2) := by decide +kernel
theorem dX5_share_131 : decode cX5_share 131 = .ok (.iconst 1, 1) := by decide +kernel
theorem dX5_share_132 : decode cX5_share 132 = .ok (.istore 8, 2) := by decide +kernel
theorem dX5_share_134 : decode cX5_share 134 = .ok (.iload 8, 2) := by decide +kernel
theorem dX5_share_136 : decode cX5_share 136 = .ok (.bipush 8, 2) := by decide +kernel
theorem dX5_share_138 : decode cX5_share 138 = .ok (.if_icmp .ge 36, 3) := by decide +kernel
theorem dX5_share_141 : decode cX5_share 141 = .ok (.aload_n 0, 1) := by decide +kernel
theorem dX5_share_142 : decode cX5_share 142 = .ok (.getfield 59, 3) := by decide +kernel
theorem dX5_share_145 : decode cX5_share 145 = .ok (.iload 8, 2) := by decide +kernel
theorem dX5_share_147 : decode cX5_share 147 = .ok (.laload, 1) := by decide +kernel
theorem dX5_share_148 : decode cX5_share 148 = .ok (.aload_n 0, 1) := by decide +kernel
theorem dX5_share_149 : decode cX5_share 149 = .ok (.getfield 59, 3) := by decide +kernel
theorem dX5_share_152 : decode cX5_share 152 = .ok (.iload 7, 2) := by decide +kernel
theorem dX5_share_154 : decode cX5_share 154 = .ok (.laload, 1) := by decide +kernel
theorem dX5_share_155 : decode cX5_share 155 = .ok (.lcmp, 1) := by decide +kernel
theorem dX5_share_156 : decode cX5_share 156 = .ok (.ifCond .le 8, 3) := by decide +kernel
theorem dX5_share_159 : decode cX5_share 159 = .ok (.iload 8, 2) := by decide +kernel
theorem dX5_share_161 : decode cX5_share 161 = .ok (.goto 5, 3) := by decide +kernel
theorem dX5_share_164 : decode cX5_share 164 = .ok (.iload 7, 2) := by decide +kernel
theorem dX5_share_166 : decode cX5_share 166 = .ok (.istore 7, 2) := by decide +kernel
theorem dX5_share_168 : decode cX5_share 168 = .ok (.iinc 8 1, 3) := by decide +kernel
theorem dX5_share_171 : decode cX5_share 171 = .ok (.goto (-37), 3) := by decide +kernel
theorem dX5_share_174 : decode cX5_share 174 = .ok (.aload_n 0, 1) := by decide +kernel
theorem dX5_share_175 : decode cX5_share 175 = .ok (.getfield 56, 3) := by decide +kernel
theorem dX5_share_178 : decode cX5_share 178 = .ok (.iload 7, 2) := by decide +kernel
theorem dX5_share_180 : decode cX5_share 180 = .ok (.dup2, 1) := by decide +kernel
theorem dX5_share_181 : decode cX5_share 181 = .ok (.laload, 1) := by decide +kernel
theorem dX5_share_182 : decode cX5_share 182 = .ok (.lconst 1, 1) := by decide +kernel
theorem dX5_share_183 : decode cX5_share 183 = .ok (.ladd, 1) := by decide +kernel
theorem dX5_share_184 : decode cX5_share 184 = .ok (.lastore, 1) := by decide +kernel
theorem dX5_share_185 : decode cX5_share 185 = .ok (.aload_n 0, 1) := by decide +kernel
theorem dX5_share_186 : decode cX5_share 186 = .ok (.getfield 59, 3) := by decide +kernel
theorem dX5_share_189 : decode cX5_share 189 = .ok (.iload 7, 2) := by decide +kernel
theorem dX5_share_191 : decode cX5_share 191 = .ok (.ldc2_w 92, 3) := by decide +kernel
theorem dX5_share_194 : decode cX5_share 194 = .ok (.lastore, 1) := by decide +kernel
theorem dX5_share_195 : decode cX5_share 195 = .ok (.lload 5, 2) := by decide +kernel
theorem dX5_share_197 : decode cX5_share 197 = .ok (.lconst 1, 1) := by decide +kernel
theorem dX5_share_198 : decode cX5_share 198 = .ok (.lsub, 1) := by decide +kernel
theorem dX5_share_199 : decode cX5_share 199 = .ok (.lstore 5, 2) := by decide +kernel
theorem dX5_share_201 : decode cX5_share 201 = .ok (.goto (-80), 3) := by decide +kernel
theorem dX5_share_204 : decode cX5_share 204 = .ok (.lload_n 1, 1) := by decide +kernel
theorem dX5_share_205 : decode cX5_share 205 = .ok (.lreturn, 1) := by decide +kernel
theorem dX5_bear_0 : decode cX5_bear 0 = .ok (.aload_n 0, 1) := by decide +kernel
theorem dX5_bear_1 : decode cX5_bear 1 = .ok (.getfield 7, 3) := by decide +kernel
theorem dX5_bear_4 : decode cX5_bear 4 = .ok (.iload_n 1, 1) := by decide +kernel
theorem dX5_bear_5 : decode cX5_bear 5 = .ok (.laload, 1) := by decide +kernel
theorem dX5_bear_6 : decode cX5_bear 6 = .ok (.lconst 0, 1) := by decide +kernel
theorem dX5_bear_7 : decode cX5_bear 7 = .ok (.lcmp, 1) := by decide +kernel
theorem dX5_bear_8 : decode cX5_bear 8 = .ok (.ifCond .ge 13, 3) := by decide +kernel
theorem dX5_bear_11 : decode cX5_bear 11 = .ok (.aload_n 0, 1) := by decide +kernel
theorem dX5_bear_12 : decode cX5_bear 12 = .ok (.getfield 7, 3) := by decide +kernel
theorem dX5_bear_15 : decode cX5_bear 15 = .ok (.iload_n 1, 1) := by decide +kernel
theorem dX5_bear_16 : decode cX5_bear 16 = .ok (.laload, 1) := by decide +kernel
theorem dX5_bear_17 : decode cX5_bear 17 = .ok (.lneg, 1) := by decide +kernel
theorem dX5_bear_18 : decode cX5_bear 18 = .ok (.goto 4, 3) := by decide +kernel
theorem dX5_bear_21 : decode cX5_bear 21 = .ok (.lconst 0, 1) := by decide +kernel
theorem dX5_bear_22 : decode cX5_bear 22 = .ok (.lstore_n 2, 1) := by decide +kernel
theorem dX5_bear_23 : decode cX5_bear 23 = .ok (.aload_n 0, 1) := by decide +kernel
theorem dX5_bear_24 : decode cX5_bear 24 = .ok (.getfield 7, 3) := by decide +kernel
theorem dX5_bear_27 : decode cX5_bear 27 = .ok (.iload_n 1, 1) := by decide +kernel
theorem dX5_bear_28 : decode cX5_bear 28 = .ok (.aload_n 0, 1) := by decide +kernel
theorem dX5_bear_29 : decode cX5_bear 29 = .ok (.getfield 7, 3) := by decide +kernel
theorem dX5_bear_32 : decode cX5_bear 32 = .ok (.iload_n 1, 1) := by decide +kernel
theorem dX5_bear_33 : decode cX5_bear 33 = .ok (.laload, 1) := by decide +kernel
theorem dX5_bear_34 : decode cX5_bear 34 = .ok (.lconst 0, 1) := by decide +kernel
theorem dX5_bear_35 : decode cX5_bear 35 = .ok (.lcmp, 1) := by decide +kernel
theorem dX5_bear_36 : decode cX5_bear 36 = .ok (.ifCond .ge 7, 3) := by decide +kernel
theorem dX5_bear_39 : decode cX5_bear 39 = .ok (.lconst 0, 1) := by decide +kernel
theorem dX5_bear_40 : decode cX5_bear 40 = .ok (.goto 9, 3) := by decide +kernel
theorem dX5_bear_43 : decode cX5_bear 43 = .ok (.aload_n 0, 1) := by decide +kernel
theorem dX5_bear_44 : decode cX5_bear 44 = .ok (.getfield 7, 3) := by decide +kernel
theorem dX5_bear_47 : decode cX5_bear 47 = .ok (.iload_n 1, 1) := by decide +kernel
theorem dX5_bear_48 : decode cX5_bear 48 = .ok (.laload, 1) := by decide +kernel
theorem dX5_bear_49 : decode cX5_bear 49 = .ok (.lastore, 1) := by decide +kernel
theorem dX5_bear_50 : decode cX5_bear 50 = .ok (.aload_n 0, 1) := by decide +kernel
theorem dX5_bear_51 : decode cX5_bear 51 = .ok (.getfield 50, 3) := by decide +kernel
theorem dX5_bear_54 : decode cX5_bear 54 = .ok (.iconst 0, 1) := by decide +kernel
theorem dX5_bear_55 : decode cX5_bear 55 = .ok (.lload_n 2, 1) := by decide +kernel
theorem dX5_bear_56 : decode cX5_bear 56 = .ok (.aload_n 0, 1) := by decide +kernel
theorem dX5_bear_57 : decode cX5_bear 57 = .ok (.getfield 13, 3) := by decide +kernel
theorem dX5_bear_60 : decode cX5_bear 60 = .ok (.iload_n 1, 1) := by decide +kernel
theorem dX5_bear_61 : decode cX5_bear 61 = .ok (.laload, 1) := by decide +kernel
theorem dX5_bear_62 : decode cX5_bear 62 = .ok (.lcmp, 1) := by decide +kernel
theorem dX5_bear_63 : decode cX5_bear 63 = .ok (.ifCond .ge 7, 3) := by decide +kernel
theorem dX5_bear_66 : decode cX5_bear 66 = .ok (.lload_n 2, 1) := by decide +kernel
theorem dX5_bear_67 : decode cX5_bear 67 = .ok (.goto 9, 3) := by decide +kernel
theorem dX5_bear_70 : decode cX5_bear 70 = .ok (.aload_n 0, 1) := by decide +kernel
theorem dX5_bear_71 : decode cX5_bear 71 = .ok (.getfield 13, 3) := by decide +kernel
theorem dX5_bear_74 : decode cX5_bear 74 = .ok (.iload_n 1, 1) := by decide +kernel
theorem dX5_bear_75 : decode cX5_bear 75 = .ok (.laload, 1) := by decide +kernel
theorem dX5_bear_76 : decode cX5_bear 76 = .ok (.lastore, 1) := by decide +kernel
theorem dX5_bear_77 : decode cX5_bear 77 = .ok (.aload_n 0, 1) := by decide +kernel
theorem dX5_bear_78 : decode cX5_bear 78 = .ok (.getfield 13, 3) := by decide +kernel
theorem dX5_bear_81 : decode cX5_bear 81 = .ok (.iload_n 1, 1) := by decide +kernel
theorem dX5_bear_82 : decode cX5_bear 82 = .ok (.aload_n 0, 1) := by decide +kernel
theorem dX5_bear_83 : decode cX5_bear 83 = .ok (.getfield 13, 3) := by decide +kernel
theorem dX5_bear_86 : decode cX5_bear 86 = .ok (.iload_n 1, 1) := by decide +kernel
theorem dX5_bear_87 : decode cX5_bear 87 = .ok (.laload, 1) := by decide +kernel
theorem dX5_bear_88 : decode cX5_bear 88 = .ok (.aload_n 0, 1) := by decide +kernel
theorem dX5_bear_89 : decode cX5_bear 89 = .ok (.getfield 50, 3) := by decide +kernel
theorem dX5_bear_92 : decode cX5_bear 92 = .ok (.iconst 0, 1) := by decide +kernel
theorem dX5_bear_93 : decode cX5_bear 93 = .ok (.laload, 1) := by decide +kernel
theorem dX5_bear_94 : decode cX5_bear 94 = .ok (.lsub, 1) := by decide +kernel
theorem dX5_bear_95 : decode cX5_bear 95 = .ok (.lastore, 1) := by decide +kernel
theorem dX5_bear_96 : decode cX5_bear 96 = .ok (.lload_n 2, 1) := by decide +kernel
theorem dX5_bear_97 : decode cX5_bear 97 = .ok (.aload_n 0, 1) := by decide +kernel
theorem dX5_bear_98 : decode cX5_bear 98 = .ok (.getfield 50, 3) := by decide +kernel
theorem dX5_bear_101 : decode cX5_bear 101 = .ok (.iconst 0, 1) := by decide +kernel
theorem dX5_bear_102 : decode cX5_bear 102 = .ok (.laload, 1) := by decide +kernel
theorem dX5_bear_103 : decode cX5_bear 103 = .ok (.lsub, 1) := by decide +kernel
theorem dX5_bear_104 : decode cX5_bear 104 = .ok (.lstore_n 2, 1) := by decide +kernel
theorem dX5_bear_105 : decode cX5_bear 105 = .ok (.aload_n 0, 1) := by decide +kernel
theorem dX5_bear_106 : decode cX5_bear 106 = .ok (.getfield 50, 3) := by decide +kernel
theorem dX5_bear_109 : decode cX5_bear 109 = .ok (.iconst 1, 1) := by decide +kernel
theorem dX5_bear_110 : decode cX5_bear 110 = .ok (.lload_n 2, 1) := by decide +kernel
theorem dX5_bear_111 : decode cX5_bear 111 = .ok (.aload_n 0, 1) := by decide +kernel
theorem dX5_bear_112 : decode cX5_bear 112 = .ok (.getfield 84, 3) := by decide +kernel
theorem dX5_bear_115 : decode cX5_bear 115 = .ok (.lcmp, 1) := by decide +kernel
theorem dX5_bear_116 : decode cX5_bear 116 = .ok (.ifCond .ge 7, 3) := by decide +kernel
theorem dX5_bear_119 : decode cX5_bear 119 = .ok (.lload_n 2, 1) := by decide +kernel
theorem dX5_bear_120 : decode cX5_bear 120 = .ok (.goto 7, 3) := by decide +kernel
theorem dX5_bear_123 : decode cX5_bear 123 = .ok (.aload_n 0, 1) := by decide +kernel
theorem dX5_bear_124 : decode cX5_bear 124 = .ok (.getfield 84, 3) := by decide +kernel
theorem dX5_bear_127 : decode cX5_bear 127 = .ok (.lastore, 1) := by decide +kernel
theorem dX5_bear_128 : decode cX5_bear 128 = .ok (.lload_n 2, 1) := by decide +kernel
theorem dX5_bear_129 : decode cX5_bear 129 = .ok (.aload_n 0, 1) := by decide +kernel
theorem dX5_bear_130 : decode cX5_bear 130 = .ok (.getfield 50, 3) := by decide +kernel
theorem dX5_bear_133 : decode cX5_bear 133 = .ok (.iconst 1, 1) := by decide +kernel
theorem dX5_bear_134 : decode cX5_bear 134 = .ok (.laload, 1) := by decide +kernel
theorem dX5_bear_135 : decode cX5_bear 135 = .ok (.lsub, 1) := by decide +kernel
theorem dX5_bear_136 : decode cX5_bear 136 = .ok (.lstore_n 2, 1) := by decide +kernel
theorem dX5_bear_137 : decode cX5_bear 137 = .ok (.iconst 0, 1) := by decide +kernel
theorem dX5_bear_138 : decode cX5_bear 138 = .ok (.istore 4, 2) := by decide +kernel
theorem dX5_bear_140 : decode cX5_bear 140 = .ok (.iload 4, 2) := by decide +kernel
theorem dX5_bear_142 : decode cX5_bear 142 = .ok (.bipush 8, 2) := by decide +kernel
theorem dX5_bear_144 : decode cX5_bear 144 = .ok (.if_icmp .ge 60, 3) := by decide +kernel
theorem dX5_bear_147 : decode cX5_bear 147 = .ok (.aload_n 0, 1) := by decide +kernel
theorem dX5_bear_148 : decode cX5_bear 148 = .ok (.getfield 53, 3) := by decide +kernel
theorem dX5_bear_151 : decode cX5_bear 151 = .ok (.iload 4, 2) := by decide +kernel
theorem dX5_bear_153 : decode cX5_bear 153 = .ok (.iload 4, 2) := by decide +kernel
theorem dX5_bear_155 : decode cX5_bear 155 = .ok (.aload_n 0, 1) := by decide +kernel
theorem dX5_bear_156 : decode cX5_bear 156 = .ok (.getfield 66, 3) := by decide +kernel
theorem dX5_bear_159 : decode cX5_bear 159 = .ok (.if_icmp .ge 23, 3) := by decide +kernel
theorem dX5_bear_162 : decode cX5_bear 162 = .ok (.aload_n 0, 1) := by decide +kernel
theorem dX5_bear_163 : decode cX5_bear 163 = .ok (.getfield 16, 3) := by decide +kernel
theorem dX5_bear_166 : decode cX5_bear 166 = .ok (.iload 4, 2) := by decide +kernel
theorem dX5_bear_168 : decode cX5_bear 168 = .ok (.iaload, 1) := by decide +kernel
theorem dX5_bear_169 : decode cX5_bear 169 = .ok (.ifCond .ne 13, 3) := by decide +kernel
theorem dX5_bear_172 : decode cX5_bear 172 = .ok (.aload_n 0, 1) := by decide +kernel
theorem dX5_bear_173 : decode cX5_bear 173 = .ok (.getfield 13, 3) := by decide +kernel
theorem dX5_bear_176 : decode cX5_bear 176 = .ok (.iload 4, 2) := by decide +kernel
theorem dX5_bear_178 : decode cX5_bear 178 = .ok (.laload, 1) := by decide +kernel
theorem dX5_bear_179 : decode cX5_bear 179 = .ok (.goto 4, 3) := by decide +kernel
theorem dX5_bear_182 : decode cX5_bear 182 = .ok (.lconst 0, 1) := by decide +kernel
theorem dX5_bear_183 : decode cX5_bear 183 = .ok (.lastore, 1) := by decide +kernel
theorem dX5_bear_184 : decode cX5_bear 184 = .ok (.aload_n 0, 1) := by decide +kernel
theorem dX5_bear_185 : decode cX5_bear 185 = .ok (.getfield 44, 3) := by decide +kernel
theorem dX5_bear_188 : decode cX5_bear 188 = .ok (.iload 4, 2) := by decide +kernel
theorem dX5_bear_190 : decode cX5_bear 190 = .ok (.aload_n 0, 1) := by decide +kernel
theorem dX5_bear_191 : decode cX5_bear 191 = .ok (.getfield 53, 3) := by decide +kernel
theorem dX5_bear_194 : decode cX5_bear 194 = .ok (.iload 4, 2) := by decide +kernel
theorem dX5_bear_196 : decode cX5_bear 196 = .ok (.laload, 1) := by decide +kernel
theorem dX5_bear_197 : decode cX5_bear 197 = .ok (.lastore, 1) := by decide +kernel
theorem dX5_bear_198 : decode cX5_bear 198 = .ok (.iinc 4 1, 3) := by decide +kernel
theorem dX5_bear_201 : decode cX5_bear 201 = .ok (.goto (-61), 3) := by decide +kernel
theorem dX5_bear_204 : decode cX5_bear 204 = .ok (.aload_n 0, 1) := by decide +kernel
theorem dX5_bear_205 : decode cX5_bear 205 = .ok (.getfield 50, 3) := by decide +kernel
theorem dX5_bear_208 : decode cX5_bear 208 = .ok (.iconst 2, 1) := by decide +kernel
theorem dX5_bear_209 : decode cX5_bear 209 = .ok (.aload_n 0, 1) := by decide +kernel
theorem dX5_bear_210 : decode cX5_bear 210 = .ok (.lload_n 2, 1) := by decide +kernel
theorem dX5_bear_211 : decode cX5_bear 211 = .ok (.invokevirtual 135, 3) := by decide +kernel
theorem dX5_bear_214 : decode cX5_bear 214 = .ok (.lastore, 1) := by decide +kernel
theorem dX5_bear_215 : decode cX5_bear 215 = .ok (.iconst 0, 1) := by decide +kernel
theorem dX5_bear_216 : decode cX5_bear 216 = .ok (.istore 4, 2) := by decide +kernel
theorem dX5_bear_218 : decode cX5_bear 218 = .ok (.iload 4, 2) := by decide +kernel
theorem dX5_bear_220 : decode cX5_bear 220 = .ok (.bipush 8, 2) := by decide +kernel
theorem dX5_bear_222 : decode cX5_bear 222 = .ok (.if_icmp .ge 31, 3) := by decide +kernel
theorem dX5_bear_225 : decode cX5_bear 225 = .ok (.aload_n 0, 1) := by decide +kernel
theorem dX5_bear_226 : decode cX5_bear 226 = .ok (.getfield 13, 3) := by decide +kernel
theorem dX5_bear_229 : decode cX5_bear 229 = .ok (.iload 4, 2) := by decide +kernel
theorem dX5_bear_231 : decode cX5_bear 231 = .ok (.aload_n 0, 1) := by decide +kernel
theorem dX5_bear_232 : decode cX5_bear 232 = .ok (.getfield 13, 3) := by decide +kernel
theorem dX5_bear_235 : decode cX5_bear 235 = .ok (.iload 4, 2) := by decide +kernel
theorem dX5_bear_237 : decode cX5_bear 237 = .ok (.laload, 1) := by decide +kernel
theorem dX5_bear_238 : decode cX5_bear 238 = .ok (.aload_n 0, 1) := by decide +kernel
theorem dX5_bear_239 : decode cX5_bear 239 = .ok (.getfield 56, 3) := by decide +kernel
theorem dX5_bear_242 : decode cX5_bear 242 = .ok (.iload 4, 2) := by decide +kernel
theorem dX5_bear_244 : decode cX5_bear 244 = .ok (.laload, 1) := by decide +kernel
theorem dX5_bear_245 : decode cX5_bear 245 = .ok (.lsub, 1) := by decide +kernel
theorem dX5_bear_246 : decode cX5_bear 246 = .ok (.lastore, 1) := by decide +kernel
theorem dX5_bear_247 : decode cX5_bear 247 = .ok (.iinc 4 1, 3) := by decide +kernel
theorem dX5_bear_250 : decode cX5_bear 250 = .ok (.goto (-32), 3) := by decide +kernel
theorem dX5_bear_253 : decode cX5_bear 253 = .ok (.lload_n 2, 1) := by decide +kernel
theorem dX5_bear_254 : decode cX5_bear 254 = .ok (.aload_n 0, 1) := by decide +kernel
theorem dX5_bear_255 : decode cX5_bear 255 = .ok (.getfield 50, 3) := by decide +kernel
theorem dX5_bear_258 : decode cX5_bear 258 = .ok (.iconst 2, 1) := by decide +kernel
theorem dX5_bear_259 : decode cX5_bear 259 = .ok (.laload, 1) := by decide +kernel
theorem dX5_bear_260 : decode cX5_bear 260 = .ok (.lsub, 1) := by decide +kernel
theorem dX5_bear_261 : decode cX5_bear 261 = .ok (.lstore_n 2, 1) := by decide +kernel
theorem dX5_bear_262 : decode cX5_bear 262 = .ok (.iconst 0, 1) := by decide +kernel
theorem dX5_bear_263 : decode cX5_bear 263 = .ok (.istore 4, 2) := by decide +kernel
theorem dX5_bear_265 : decode cX5_bear 265 = .ok (.iload 4, 2) := by decide +kernel
theorem dX5_bear_267 : decode cX5_bear 267 = .ok (.bipush 8, 2) := by decide +kernel
theorem dX5_bear_269 : decode cX5_bear 269 = .ok (.if_icmp .ge 66, 3) := by decide +kernel
theorem dX5_bear_272 : decode cX5_bear 272 = .ok (.aload_n 0, 1) := by decide +kernel
theorem dX5_bear_273 : decode cX5_bear 273 = .ok (.getfield 7, 3) := by decide +kernel
theorem dX5_bear_276 : decode cX5_bear 276 = .ok (.iload 4, 2) := by decide +kernel
theorem dX5_bear_278 : decode cX5_bear 278 = .ok (.laload, 1) := by decide +kernel
theorem dX5_bear_279 : decode cX5_bear 279 = .ok (.lconst 0, 1) := by decide +kernel
theorem dX5_bear_280 : decode cX5_bear 280 = .ok (.lcmp, 1) := by decide +kernel
theorem dX5_bear_281 : decode cX5_bear 281 = .ok (.ifCond .ge 7, 3) := by decide +kernel
theorem dX5_bear_284 : decode cX5_bear 284 = .ok (.lconst 0, 1) := by decide +kernel
theorem dX5_bear_285 : decode cX5_bear 285 = .ok (.goto 10, 3) := by decide +kernel
theorem dX5_bear_288 : decode cX5_bear 288 = .ok (.aload_n 0, 1) := by decide +kernel
theorem dX5_bear_289 : decode cX5_bear 289 = .ok (.getfield 7, 3) := by decide +kernel
theorem dX5_bear_292 : decode cX5_bear 292 = .ok (.iload 4, 2) := by decide +kernel
theorem dX5_bear_294 : decode cX5_bear 294 = .ok (.laload, 1) := by decide +kernel
theorem dX5_bear_295 : decode cX5_bear 295 = .ok (.lstore 5, 2) := by decide +kernel
theorem dX5_bear_297 : decode cX5_bear 297 = .ok (.aload_n 0, 1) := by decide +kernel
theorem dX5_bear_298 : decode cX5_bear 298 = .ok (.getfield 53, 3) := by decide +kernel
theorem dX5_bear_301 : decode cX5_bear 301 = .ok (.iload 4, 2) := by decide +kernel
theorem dX5_bear_303 : decode cX5_bear 303 = .ok (.aload_n 0, 1) := by decide +kernel
theorem dX5_bear_304 : decode cX5_bear 304 = .ok (.getfield 44, 3) := by decide +kernel
theorem dX5_bear_307 : decode cX5_bear 307 = .ok (.iload 4, 2) := by decide +kernel
theorem dX5_bear_309 : decode cX5_bear 309 = .ok (.laload, 1) := by decide +kernel
theorem dX5_bear_310 : decode cX5_bear 310 = .ok (.lload 5, 2) := by decide +kernel
theorem dX5_bear_312 : decode cX5_bear 312 = .ok (.lcmp, 1) := by decide +kernel
theorem dX5_bear_313 : decode cX5_bear 313 = .ok (.ifCond .ge 13, 3) := by decide +kernel
theorem dX5_bear_316 : decode cX5_bear 316 = .ok (.aload_n 0, 1) := by decide +kernel
theorem dX5_bear_317 : decode cX5_bear 317 = .ok (.getfield 44, 3) := by decide +kernel
theorem dX5_bear_320 : decode cX5_bear 320 = .ok (.iload 4, 2) := by decide +kernel
theorem dX5_bear_322 : decode cX5_bear 322 = .ok (.laload, 1) := by decide +kernel
theorem dX5_bear_323 : decode cX5_bear 323 = .ok (.goto 5, 3) := by decide +kernel
theorem dX5_bear_326 : decode cX5_bear 326 = .ok (.lload 5, 2) := by decide +kernel
theorem dX5_bear_328 : decode cX5_bear 328 = .ok (.lastore, 1) := by decide +kernel
theorem dX5_bear_329 : decode cX5_bear 329 = .ok (.iinc 4 1, 3) := by decide +kernel
theorem dX5_bear_332 : decode cX5_bear 332 = .ok (.goto (-67), 3) := by decide +kernel
theorem dX5_bear_335 : decode cX5_bear 335 = .ok (.aload_n 0, 1) := by decide +kernel
theorem dX5_bear_336 : decode cX5_bear 336 = .ok (.getfield 50, 3) := by decide +kernel
theorem dX5_bear_339 : decode cX5_bear 339 = .ok (.iconst 3, 1) := by decide +kernel
theorem dX5_bear_340 : decode cX5_bear 340 = .ok (.aload_n 0, 1) := by decide +kernel
theorem dX5_bear_341 : decode cX5_bear 341 = .ok (.lload_n 2, 1) := by decide +kernel
theorem dX5_bear_342 : decode cX5_bear 342 = .ok (.invokevirtual 135, 3) := by decide +kernel
theorem dX5_bear_345 : decode cX5_bear 345 = .ok (.lastore, 1) := by decide +kernel
theorem dX5_bear_346 : decode cX5_bear 346 = .ok (.iconst 0, 1) := by decide +kernel
theorem dX5_bear_347 : decode cX5_bear 347 = .ok (.istore 4, 2) := by decide +kernel
theorem dX5_bear_349 : decode cX5_bear 349 = .ok (.iload 4, 2) := by decide +kernel
theorem dX5_bear_351 : decode cX5_bear 351 = .ok (.bipush 8, 2) := by decide +kernel
theorem dX5_bear_353 : decode cX5_bear 353 = .ok (.if_icmp .ge 31, 3) := by decide +kernel
theorem dX5_bear_356 : decode cX5_bear 356 = .ok (.aload_n 0, 1) := by decide +kernel
theorem dX5_bear_357 : decode cX5_bear 357 = .ok (.getfield 7, 3) := by decide +kernel
theorem dX5_bear_360 : decode cX5_bear 360 = .ok (.iload 4, 2) := by decide +kernel
theorem dX5_bear_362 : decode cX5_bear 362 = .ok (.aload_n 0, 1) := by decide +kernel
theorem dX5_bear_363 : decode cX5_bear 363 = .ok (.getfield 7, 3) := by decide +kernel
theorem dX5_bear_366 : decode cX5_bear 366 = .ok (.iload 4, 2) := by decide +kernel
theorem dX5_bear_368 : decode cX5_bear 368 = .ok (.laload, 1) := by decide +kernel
theorem dX5_bear_369 : decode cX5_bear 369 = .ok (.aload_n 0, 1) := by decide +kernel
theorem dX5_bear_370 : decode cX5_bear 370 = .ok (.getfield 56, 3) := by decide +kernel
theorem dX5_bear_373 : decode cX5_bear 373 = .ok (.iload 4, 2) := by decide +kernel
theorem dX5_bear_375 : decode cX5_bear 375 = .ok (.laload, 1) := by decide +kernel
theorem dX5_bear_376 : decode cX5_bear 376 = .ok (.lsub, 1) := by decide +kernel
theorem dX5_bear_377 : decode cX5_bear 377 = .ok (.lastore, 1) := by decide +kernel
theorem dX5_bear_378 : decode cX5_bear 378 = .ok (.iinc 4 1, 3) := by decide +kernel
theorem dX5_bear_381 : decode cX5_bear 381 = .ok (.goto (-32), 3) := by decide +kernel
theorem dX5_bear_384 : decode cX5_bear 384 = .ok (.aload_n 0, 1) := by decide +kernel
theorem dX5_bear_385 : decode cX5_bear 385 = .ok (.getfield 50, 3) := by decide +kernel
theorem dX5_bear_388 : decode cX5_bear 388 = .ok (.iconst 4, 1) := by decide +kernel
theorem dX5_bear_389 : decode cX5_bear 389 = .ok (.lload_n 2, 1) := by decide +kernel
theorem dX5_bear_390 : decode cX5_bear 390 = .ok (.aload_n 0, 1) := by decide +kernel
theorem dX5_bear_391 : decode cX5_bear 391 = .ok (.getfield 50, 3) := by decide +kernel
theorem dX5_bear_394 : decode cX5_bear 394 = .ok (.iconst 3, 1) := by decide +kernel
theorem dX5_bear_395 : decode cX5_bear 395 = .ok (.laload, 1) := by decide +kernel
theorem dX5_bear_396 : decode cX5_bear 396 = .ok (.lsub, 1) := by decide +kernel
theorem dX5_bear_397 : decode cX5_bear 397 = .ok (.lastore, 1) := by decide +kernel
theorem dX5_bear_398 : decode cX5_bear 398 = .ok (.aload_n 0, 1) := by decide +kernel
theorem dX5_bear_399 : decode cX5_bear 399 = .ok (.getfield 50, 3) := by decide +kernel
theorem dX5_bear_402 : decode cX5_bear 402 = .ok (.iconst 4, 1) := by decide +kernel
theorem dX5_bear_403 : decode cX5_bear 403 = .ok (.laload, 1) := by decide +kernel
theorem dX5_bear_404 : decode cX5_bear 404 = .ok (.lreturn, 1) := by decide +kernel
theorem dX5_closeOut_0 : decode cX5_closeOut 0 = .ok (.aload_n 0, 1) := by decide +kernel
theorem dX5_closeOut_1 : decode cX5_closeOut 1 = .ok (.aload_n 0, 1) := by decide +kernel
theorem dX5_closeOut_2 : decode cX5_closeOut 2 = .ok (.iload_n 1, 1) := by decide +kernel
theorem dX5_closeOut_3 : decode cX5_closeOut 3 = .ok (.invokevirtual 100, 3) := by decide +kernel
theorem dX5_closeOut_6 : decode cX5_closeOut 6 = .ok (.ifCond .ne 7, 3) := by decide +kernel
theorem dX5_closeOut_9 : decode cX5_closeOut 9 = .ok (.iconst 1, 1) := by decide +kernel
theorem dX5_closeOut_10 : decode cX5_closeOut 10 = .ok (.goto 18, 3) := by decide +kernel
theorem dX5_closeOut_13 : decode cX5_closeOut 13 = .ok (.aload_n 0, 1) := by decide +kernel
theorem dX5_closeOut_14 : decode cX5_closeOut 14 = .ok (.getfield 16, 3) := by decide +kernel
theorem dX5_closeOut_17 : decode cX5_closeOut 17 = .ok (.iload_n 1, 1) := by decide +kernel
theorem dX5_closeOut_18 : decode cX5_closeOut 18 = .ok (.iaload, 1) := by decide +kernel
theorem dX5_closeOut_19 : decode cX5_closeOut 19 = .ok (.iconst 1, 1) := by decide +kernel
theorem dX5_closeOut_20 : decode cX5_closeOut 20 = .ok (.if_icmp .eq 7, 3) := by decide +kernel
theorem dX5_closeOut_23 : decode cX5_closeOut 23 = .ok (.iconst 2, 1) := by decide +kernel
theorem dX5_closeOut_24 : decode cX5_closeOut 24 = .ok (.goto 4, 3) := by decide +kernel
theorem dX5_closeOut_27 : decode cX5_closeOut 27 = .ok (.iconst 0, 1) := by decide +kernel
theorem dX5_closeOut_28 : decode cX5_closeOut 28 = .ok (.putfield 62, 3) := by decide +kernel
theorem dX5_closeOut_31 : decode cX5_closeOut 31 = .ok (.aload_n 0, 1) := by decide +kernel
theorem dX5_closeOut_32 : decode cX5_closeOut 32 = .ok (.getfield 62, 3) := by decide +kernel
theorem dX5_closeOut_35 : decode cX5_closeOut 35 = .ok (.ifCond .le 5, 3) := by decide +kernel
theorem dX5_closeOut_38 : decode cX5_closeOut 38 = .ok (.lconst 0, 1) := by decide +kernel
theorem dX5_closeOut_39 : decode cX5_closeOut 39 = .ok (.lreturn, 1) := by decide +kernel
theorem dX5_closeOut_40 : decode cX5_closeOut 40 = .ok (.iconst 0, 1) := by decide +kernel
theorem dX5_closeOut_41 : decode cX5_closeOut 41 = .ok (.istore_n 2, 1) := by decide +kernel
theorem dX5_closeOut_42 : decode cX5_closeOut 42 = .ok (.iload_n 2, 1) := by decide +kernel
theorem dX5_closeOut_43 : decode cX5_closeOut 43 = .ok (.bipush 8, 2) := by decide +kernel
theorem dX5_closeOut_45 : decode cX5_closeOut 45 = .ok (.if_icmp .ge 21, 3) := by decide +kernel
theorem dX5_closeOut_48 : decode cX5_closeOut 48 = .ok (.aload_n 0, 1) := by decide +kernel
theorem dX5_closeOut_49 : decode cX5_closeOut 49 = .ok (.getfield 41, 3) := by decide +kernel
theorem dX5_closeOut_52 : decode cX5_closeOut 52 = .ok (.iload_n 2, 1) := by decide +kernel
theorem dX5_closeOut_53 : decode cX5_closeOut 53 = .ok (.aload_n 0, 1) := by decide +kernel
theorem dX5_closeOut_54 : decode cX5_closeOut 54 = .ok (.getfield 7, 3) := by decide +kernel
theorem dX5_closeOut_57 : decode cX5_closeOut 57 = .ok (.iload_n 2, 1) := by decide +kernel
theorem dX5_closeOut_58 : decode cX5_closeOut 58 = .ok (.laload, 1) := by decide +kernel
theorem dX5_closeOut_59 : decode cX5_closeOut 59 = .ok (.lastore, 1) := by decide +kernel
theorem dX5_closeOut_60 : decode cX5_closeOut 60 = .ok (.iinc 2 1, 3) := by decide +kernel
theorem dX5_closeOut_63 : decode cX5_closeOut 63 = .ok (.goto (-21), 3) := by decide +kernel
theorem dX5_closeOut_66 : decode cX5_closeOut 66 = .ok (.iconst 0, 1) := by decide +kernel
theorem dX5_closeOut_67 : decode cX5_closeOut 67 = .ok (.istore_n 2, 1) := by decide +kernel
theorem dX5_closeOut_68 : decode cX5_closeOut 68 = .ok (.iload_n 2, 1) := by decide +kernel
theorem dX5_closeOut_69 : decode cX5_closeOut 69 = .ok (.bipush 48, 2) := by decide +kernel
theorem dX5_closeOut_71 : decode cX5_closeOut 71 = .ok (.if_icmp .ge 21, 3) := by decide +kernel
theorem dX5_closeOut_74 : decode cX5_closeOut 74 = .ok (.aload_n 0, 1) := by decide +kernel
theorem dX5_closeOut_75 : decode cX5_closeOut 75 = .ok (.getfield 47, 3) := by decide +kernel
theorem dX5_closeOut_78 : decode cX5_closeOut 78 = .ok (.iload_n 2, 1) := by decide +kernel
theorem dX5_closeOut_79 : decode cX5_closeOut 79 = .ok (.aload_n 0, 1) := by decide +kernel
theorem dX5_closeOut_80 : decode cX5_closeOut 80 = .ok (.getfield 20, 3) := by decide +kernel
theorem dX5_closeOut_83 : decode cX5_closeOut 83 = .ok (.iload_n 2, 1) := by decide +kernel
theorem dX5_closeOut_84 : decode cX5_closeOut 84 = .ok (.iaload, 1) := by decide +kernel
theorem dX5_closeOut_85 : decode cX5_closeOut 85 = .ok (.iastore, 1) := by decide +kernel
theorem dX5_closeOut_86 : decode cX5_closeOut 86 = .ok (.iinc 2 1, 3) := by decide +kernel
theorem dX5_closeOut_89 : decode cX5_closeOut 89 = .ok (.goto (-21), 3) := by decide +kernel
theorem dX5_closeOut_92 : decode cX5_closeOut 92 = .ok (.aload_n 0, 1) := by decide +kernel
theorem dX5_closeOut_93 : decode cX5_closeOut 93 = .ok (.iconst 0, 1) := by decide +kernel
theorem dX5_closeOut_94 : decode cX5_closeOut 94 = .ok (.putfield 117, 3) := by decide +kernel
theorem dX5_closeOut_97 : decode cX5_closeOut 97 = .ok (.iconst 0, 1) := by decide +kernel
theorem dX5_closeOut_98 : decode cX5_closeOut 98 = .ok (.istore_n 2, 1) := by decide +kernel
theorem dX5_closeOut_99 : decode cX5_closeOut 99 = .ok (.iload_n 2, 1) := by decide +kernel
theorem dX5_closeOut_100 : decode cX5_closeOut 100 = .ok (.aload_n 0, 1) := by decide +kernel
theorem dX5_closeOut_101 : decode cX5_closeOut 101 = .ok (.getfield 69, 3) := by decide +kernel
theorem dX5_closeOut_104 : decode cX5_closeOut 104 = .ok (.if_icmp .ge 22, 3) := by decide +kernel
theorem dX5_closeOut_107 : decode cX5_closeOut 107 = .ok (.aload_n 0, 1) := by decide +kernel
theorem dX5_closeOut_108 : decode cX5_closeOut 108 = .ok (.getfield 117, 3) := by decide +kernel
theorem dX5_closeOut_111 : decode cX5_closeOut 111 = .ok (.ifCond .ne 15, 3) := by decide +kernel
theorem dX5_closeOut_114 : decode cX5_closeOut 114 = .ok (.aload_n 0, 1) := by decide +kernel
theorem dX5_closeOut_115 : decode cX5_closeOut 115 = .ok (.iload_n 1, 1) := by decide +kernel
theorem dX5_closeOut_116 : decode cX5_closeOut 116 = .ok (.iload_n 2, 1) := by decide +kernel
theorem dX5_closeOut_117 : decode cX5_closeOut 117 = .ok (.invokevirtual 139, 3) := by decide +kernel
theorem dX5_closeOut_120 : decode cX5_closeOut 120 = .ok (.iinc 2 1, 3) := by decide +kernel
theorem dX5_closeOut_123 : decode cX5_closeOut 123 = .ok (.goto (-24), 3) := by decide +kernel
theorem dX5_closeOut_126 : decode cX5_closeOut 126 = .ok (.aload_n 0, 1) := by decide +kernel
theorem dX5_closeOut_127 : decode cX5_closeOut 127 = .ok (.getfield 117, 3) := by decide +kernel
theorem dX5_closeOut_130 : decode cX5_closeOut 130 = .ok (.ifCond .ne 15, 3) := by decide +kernel
theorem dX5_closeOut_133 : decode cX5_closeOut 133 = .ok (.aload_n 0, 1) := by decide +kernel
theorem dX5_closeOut_134 : decode cX5_closeOut 134 = .ok (.iload_n 1, 1) := by decide +kernel
theorem dX5_closeOut_135 : decode cX5_closeOut 135 = .ok (.invokevirtual 143, 3) := by decide +kernel
theorem dX5_closeOut_138 : decode cX5_closeOut 138 = .ok (.ldc2_w 72, 3) := by decide +kernel
theorem dX5_closeOut_141 : decode cX5_closeOut 141 = .ok (.lcmp, 1) := by decide +kernel
theorem dX5_closeOut_142 : decode cX5_closeOut 142 = .ok (.ifCond .le 59, 3) := by decide +kernel
theorem dX5_closeOut_145 : decode cX5_closeOut 145 = .ok (.iconst 0, 1) := by decide +kernel
theorem dX5_closeOut_146 : decode cX5_closeOut 146 = .ok (.istore_n 2, 1) := by decide +kernel
theorem dX5_closeOut_147 : decode cX5_closeOut 147 = .ok (.iload_n 2, 1) := by decide +kernel
theorem dX5_closeOut_148 : decode cX5_closeOut 148 = .ok (.bipush 8, 2) := by decide +kernel
theorem dX5_closeOut_150 : decode cX5_closeOut 150 = .ok (.if_icmp .ge 21, 3) := by decide +kernel
theorem dX5_closeOut_153 : decode cX5_closeOut 153 = .ok (.aload_n 0, 1) := by decide +kernel
theorem dX5_closeOut_154 : decode cX5_closeOut 154 = .ok (.getfield 7, 3) := by decide +kernel
theorem dX5_closeOut_157 : decode cX5_closeOut 157 = .ok (.iload_n 2, 1) := by decide +kernel
theorem dX5_closeOut_158 : decode cX5_closeOut 158 = .ok (.aload_n 0, 1) := by decide +kernel
theorem dX5_closeOut_159 : decode cX5_closeOut 159 = .ok (.getfield 41, 3) := by decide +kernel
theorem dX5_closeOut_162 : decode cX5_closeOut 162 = .ok (.iload_n 2, 1) := by decide +kernel
theorem dX5_closeOut_163 : decode cX5_closeOut 163 = .ok (.laload, 1) := by decide +kernel
theorem dX5_closeOut_164 : decode cX5_closeOut 164 = .ok (.lastore, 1) := by decide +kernel
theorem dX5_closeOut_165 : decode cX5_closeOut 165 = .ok (.iinc 2 1, 3) := by decide +kernel
theorem dX5_closeOut_168 : decode cX5_closeOut 168 = .ok (.goto (-21), 3) := by decide +kernel
theorem dX5_closeOut_171 : decode cX5_closeOut 171 = .ok (.iconst 0, 1) := by decide +kernel
theorem dX5_closeOut_172 : decode cX5_closeOut 172 = .ok (.istore_n 2, 1) := by decide +kernel
theorem dX5_closeOut_173 : decode cX5_closeOut 173 = .ok (.iload_n 2, 1) := by decide +kernel
theorem dX5_closeOut_174 : decode cX5_closeOut 174 = .ok (.bipush 48, 2) := by decide +kernel
theorem dX5_closeOut_176 : decode cX5_closeOut 176 = .ok (.if_icmp .ge 21, 3) := by decide +kernel
theorem dX5_closeOut_179 : decode cX5_closeOut 179 = .ok (.aload_n 0, 1) := by decide +kernel
theorem dX5_closeOut_180 : decode cX5_closeOut 180 = .ok (.getfield 20, 3) := by decide +kernel
theorem dX5_closeOut_183 : decode cX5_closeOut 183 = .ok (.iload_n 2, 1) := by decide +kernel
theorem dX5_closeOut_184 : decode cX5_closeOut 184 = .ok (.aload_n 0, 1) := by decide +kernel
theorem dX5_closeOut_185 : decode cX5_closeOut 185 = .ok (.getfield 47, 3) := by decide +kernel
theorem dX5_closeOut_188 : decode cX5_closeOut 188 = .ok (.iload_n 2, 1) := by decide +kernel
theorem dX5_closeOut_189 : decode cX5_closeOut 189 = .ok (.iaload, 1) := by decide +kernel
theorem dX5_closeOut_190 : decode cX5_closeOut 190 = .ok (.iastore, 1) := by decide +kernel
theorem dX5_closeOut_191 : decode cX5_closeOut 191 = .ok (.iinc 2 1, 3) := by decide +kernel
theorem dX5_closeOut_194 : decode cX5_closeOut 194 = .ok (.goto (-21), 3) := by decide +kernel
theorem dX5_closeOut_197 : decode cX5_closeOut 197 = .ok (.ldc2_w 92, 3) := by decide +kernel
theorem dX5_closeOut_200 : decode cX5_closeOut 200 = .ok (.lreturn, 1) := by decide +kernel
theorem dX5_closeOut_201 : decode cX5_closeOut 201 = .ok (.aload_n 0, 1) := by decide +kernel
theorem dX5_closeOut_202 : decode cX5_closeOut 202 = .ok (.iload_n 1, 1) := by decide +kernel
theorem dX5_closeOut_203 : decode cX5_closeOut 203 = .ok (.invokevirtual 146, 3) := by decide +kernel
theorem dX5_closeOut_206 : decode cX5_closeOut 206 = .ok (.lstore_n 2, 1) := by decide +kernel
theorem dX5_closeOut_207 : decode cX5_closeOut 207 = .ok (.aload_n 0, 1) := by decide +kernel
theorem dX5_closeOut_208 : decode cX5_closeOut 208 = .ok (.aload_n 0, 1) := by decide +kernel
theorem dX5_closeOut_209 : decode cX5_closeOut 209 = .ok (.getfield 84, 3) := by decide +kernel
theorem dX5_closeOut_212 : decode cX5_closeOut 212 = .ok (.aload_n 0, 1) := by decide +kernel
theorem dX5_closeOut_213 : decode cX5_closeOut 213 = .ok (.getfield 50, 3) := by decide +kernel
theorem dX5_closeOut_216 : decode cX5_closeOut 216 = .ok (.iconst 1, 1) := by decide +kernel
theorem dX5_closeOut_217 : decode cX5_closeOut 217 = .ok (.laload, 1) := by decide +kernel
theorem dX5_closeOut_218 : decode cX5_closeOut 218 = .ok (.lsub, 1) := by decide +kernel
theorem dX5_closeOut_219 : decode cX5_closeOut 219 = .ok (.putfield 84, 3) := by decide +kernel
theorem dX5_closeOut_222 : decode cX5_closeOut 222 = .ok (.aload_n 0, 1) := by decide +kernel
theorem dX5_closeOut_223 : decode cX5_closeOut 223 = .ok (.aload_n 0, 1) := by decide +kernel
theorem dX5_closeOut_224 : decode cX5_closeOut 224 = .ok (.getfield 149, 3) := by decide +kernel
theorem dX5_closeOut_227 : decode cX5_closeOut 227 = .ok (.lload_n 2, 1) := by decide +kernel
theorem dX5_closeOut_228 : decode cX5_closeOut 228 = .ok (.ladd, 1) := by decide +kernel
theorem dX5_closeOut_229 : decode cX5_closeOut 229 = .ok (.putfield 149, 3) := by decide +kernel
theorem dX5_closeOut_232 : decode cX5_closeOut 232 = .ok (.aload_n 0, 1) := by decide +kernel
theorem dX5_closeOut_233 : decode cX5_closeOut 233 = .ok (.getfield 16, 3) := by decide +kernel
theorem dX5_closeOut_236 : decode cX5_closeOut 236 = .ok (.iload_n 1, 1) := by decide +kernel
theorem dX5_closeOut_237 : decode cX5_closeOut 237 = .ok (.iconst 2, 1) := by decide +kernel
theorem dX5_closeOut_238 : decode cX5_closeOut 238 = .ok (.iastore, 1) := by decide +kernel
theorem dX5_closeOut_239 : decode cX5_closeOut 239 = .ok (.iconst 0, 1) := by decide +kernel
theorem dX5_closeOut_240 : decode cX5_closeOut 240 = .ok (.istore 4, 2) := by decide +kernel
theorem dX5_closeOut_242 : decode cX5_closeOut 242 = .ok (.iload 4, 2) := by decide +kernel
theorem dX5_closeOut_244 : decode cX5_closeOut 244 = .ok (.iconst 5, 1) := by decide +kernel
theorem dX5_closeOut_245 : decode cX5_closeOut 245 = .ok (.if_icmp .ge 23, 3) := by decide +kernel
theorem dX5_closeOut_248 : decode cX5_closeOut 248 = .ok (.aload_n 0, 1) := by decide +kernel
theorem dX5_closeOut_249 : decode cX5_closeOut 249 = .ok (.getfield 38, 3) := by decide +kernel
theorem dX5_closeOut_252 : decode cX5_closeOut 252 = .ok (.iload 4, 2) := by decide +kernel
theorem dX5_closeOut_254 : decode cX5_closeOut 254 = .ok (.aload_n 0, 1) := by decide +kernel
theorem dX5_closeOut_255 : decode cX5_closeOut 255 = .ok (.getfield 50, 3) := by decide +kernel
theorem dX5_closeOut_258 : decode cX5_closeOut 258 = .ok (.iload 4, 2) := by decide +kernel
theorem dX5_closeOut_260 : decode cX5_closeOut 260 = .ok (.laload, 1) := by decide +kernel
theorem dX5_closeOut_261 : decode cX5_closeOut 261 = .ok (.lastore, 1) := by decide +kernel
theorem dX5_closeOut_262 : decode cX5_closeOut 262 = .ok (.iinc 4 1, 3) := by decide +kernel
theorem dX5_closeOut_265 : decode cX5_closeOut 265 = .ok (.goto (-23), 3) := by decide +kernel
theorem dX5_closeOut_268 : decode cX5_closeOut 268 = .ok (.lload_n 2, 1) := by decide +kernel
theorem dX5_closeOut_269 : decode cX5_closeOut 269 = .ok (.lreturn, 1) := by decide +kernel
theorem dX5_wouldLose_0 : decode cX5_wouldLose 0 = .ok (.aload_n 0, 1) := by decide +kernel
theorem dX5_wouldLose_1 : decode cX5_wouldLose 1 = .ok (.getfield 7, 3) := by decide +kernel
theorem dX5_wouldLose_4 : decode cX5_wouldLose 4 = .ok (.iload_n 1, 1) := by decide +kernel
theorem dX5_wouldLose_5 : decode cX5_wouldLose 5 = .ok (.laload, 1) := by decide +kernel
theorem dX5_wouldLose_6 : decode cX5_wouldLose 6 = .ok (.lconst 0, 1) := by decide +kernel
theorem dX5_wouldLose_7 : decode cX5_wouldLose 7 = .ok (.lcmp, 1) := by decide +kernel
theorem dX5_wouldLose_8 : decode cX5_wouldLose 8 = .ok (.ifCond .ge 13, 3) := by decide +kernel
theorem dX5_wouldLose_11 : decode cX5_wouldLose 11 = .ok (.aload_n 0, 1) := by decide +kernel
theorem dX5_wouldLose_12 : decode cX5_wouldLose 12 = .ok (.getfield 7, 3) := by decide +kernel
theorem dX5_wouldLose_15 : decode cX5_wouldLose 15 = .ok (.iload_n 1, 1) := by decide +kernel
theorem dX5_wouldLose_16 : decode cX5_wouldLose 16 = .ok (.laload, 1) := by decide +kernel
theorem dX5_wouldLose_17 : decode cX5_wouldLose 17 = .ok (.lneg, 1) := by decide +kernel
theorem dX5_wouldLose_18 : decode cX5_wouldLose 18 = .ok (.goto 4, 3) := by decide +kernel
theorem dX5_wouldLose_21 : decode cX5_wouldLose 21 = .ok (.lconst 0, 1) := by decide +kernel
theorem dX5_wouldLose_22 : decode cX5_wouldLose 22 = .ok (.lstore_n 2, 1) := by decide +kernel
theorem dX5_wouldLose_23 : decode cX5_wouldLose 23 = .ok (.lload_n 2, 1) := by decide +kernel
theorem dX5_wouldLose_24 : decode cX5_wouldLose 24 = .ok (.aload_n 0, 1) := by decide +kernel
theorem dX5_wouldLose_25 : decode cX5_wouldLose 25 = .ok (.getfield 13, 3) := by decide +kernel
theorem dX5_wouldLose_28 : decode cX5_wouldLose 28 = .ok (.iload_n 1, 1) := by decide +kernel
theorem dX5_wouldLose_29 : decode cX5_wouldLose 29 = .ok (.laload, 1) := by decide +kernel
theorem dX5_wouldLose_30 : decode cX5_wouldLose 30 = .ok (.lsub, 1) := by decide +kernel
theorem dX5_wouldLose_31 : decode cX5_wouldLose 31 = .ok (.aload_n 0, 1) := by decide +kernel
theorem dX5_wouldLose_32 : decode cX5_wouldLose 32 = .ok (.getfield 84, 3) := by decide +kernel
theorem dX5_wouldLose_35 : decode cX5_wouldLose 35 = .ok (.lsub, 1) := by decide +kernel
theorem dX5_wouldLose_36 : decode cX5_wouldLose 36 = .ok (.lstore_n 2, 1) := by decide +kernel
theorem dX5_wouldLose_37 : decode cX5_wouldLose 37 = .ok (.iconst 0, 1) := by decide +kernel
theorem dX5_wouldLose_38 : decode cX5_wouldLose 38 = .ok (.istore 4, 2) := by decide +kernel
theorem dX5_wouldLose_40 : decode cX5_wouldLose 40 = .ok (.iload 4, 2) := by decide +kernel
theorem dX5_wouldLose_42 : decode cX5_wouldLose 42 = .ok (.aload_n 0, 1) := by decide +kernel
theorem dX5_wouldLose_43 : decode cX5_wouldLose 43 = .ok (.getfield 66, 3) := by decide +kernel
theorem dX5_wouldLose_46 : decode cX5_wouldLose 46 = .ok (.if_icmp .ge 80, 3) := by decide +kernel
theorem dX5_wouldLose_49 : decode cX5_wouldLose 49 = .ok (.aload_n 0, 1) := by decide +kernel
theorem dX5_wouldLose_50 : decode cX5_wouldLose 50 = .ok (.getfield 16, 3) := by decide +kernel
theorem dX5_wouldLose_53 : decode cX5_wouldLose 53 = .ok (.iload 4, 2) := by decide +kernel
theorem dX5_wouldLose_55 : decode cX5_wouldLose 55 = .ok (.iaload, 1) := by decide +kernel
theorem dX5_wouldLose_56 : decode cX5_wouldLose 56 = .ok (.ifCond .ne 64, 3) := by decide +kernel
theorem dX5_wouldLose_59 : decode cX5_wouldLose 59 = .ok (.aload_n 0, 1) := by decide +kernel
theorem dX5_wouldLose_60 : decode cX5_wouldLose 60 = .ok (.getfield 7, 3) := by decide +kernel
theorem dX5_wouldLose_63 : decode cX5_wouldLose 63 = .ok (.iload 4, 2) := by decide +kernel
theorem dX5_wouldLose_65 : decode cX5_wouldLose 65 = .ok (.laload, 1) := by decide +kernel
theorem dX5_wouldLose_66 : decode cX5_wouldLose 66 = .ok (.lconst 0, 1) := by decide +kernel
theorem dX5_wouldLose_67 : decode cX5_wouldLose 67 = .ok (.lcmp, 1) := by decide +kernel
theorem dX5_wouldLose_68 : decode cX5_wouldLose 68 = .ok (.ifCond .ge 7, 3) := by decide +kernel
theorem dX5_wouldLose_71 : decode cX5_wouldLose 71 = .ok (.lconst 0, 1) := by decide +kernel
theorem dX5_wouldLose_72 : decode cX5_wouldLose 72 = .ok (.goto 10, 3) := by decide +kernel
theorem dX5_wouldLose_75 : decode cX5_wouldLose 75 = .ok (.aload_n 0, 1) := by decide +kernel
theorem dX5_wouldLose_76 : decode cX5_wouldLose 76 = .ok (.getfield 7, 3) := by decide +kernel
theorem dX5_wouldLose_79 : decode cX5_wouldLose 79 = .ok (.iload 4, 2) := by decide +kernel
theorem dX5_wouldLose_81 : decode cX5_wouldLose 81 = .ok (.laload, 1) := by decide +kernel
theorem dX5_wouldLose_82 : decode cX5_wouldLose 82 = .ok (.lstore 5, 2) := by decide +kernel
theorem dX5_wouldLose_84 : decode cX5_wouldLose 84 = .ok (.lload_n 2, 1) := by decide +kernel
theorem dX5_wouldLose_85 : decode cX5_wouldLose 85 = .ok (.aload_n 0, 1) := by decide +kernel
theorem dX5_wouldLose_86 : decode cX5_wouldLose 86 = .ok (.getfield 13, 3) := by decide +kernel
theorem dX5_wouldLose_89 : decode cX5_wouldLose 89 = .ok (.iload 4, 2) := by decide +kernel
theorem dX5_wouldLose_91 : decode cX5_wouldLose 91 = .ok (.laload, 1) := by decide +kernel
theorem dX5_wouldLose_92 : decode cX5_wouldLose 92 = .ok (.lsub, 1) := by decide +kernel
theorem dX5_wouldLose_93 : decode cX5_wouldLose 93 = .ok (.aload_n 0, 1) := by decide +kernel
theorem dX5_wouldLose_94 : decode cX5_wouldLose 94 = .ok (.getfield 13, 3) := by decide +kernel
theorem dX5_wouldLose_97 : decode cX5_wouldLose 97 = .ok (.iload 4, 2) := by decide +kernel
theorem dX5_wouldLose_99 : decode cX5_wouldLose 99 = .ok (.laload, 1) := by decide +kernel
theorem dX5_wouldLose_100 : decode cX5_wouldLose 100 = .ok (.lload 5, 2) := by decide +kernel
theorem dX5_wouldLose_102 : decode cX5_wouldLose 102 = .ok (.lcmp, 1) := by decide +kernel
theorem dX5_wouldLose_103 : decode cX5_wouldLose 103 = .ok (.ifCond .ge 13, 3) := by decide +kernel
theorem dX5_wouldLose_106 : decode cX5_wouldLose 106 = .ok (.aload_n 0, 1) := by decide +kernel
theorem dX5_wouldLose_107 : decode cX5_wouldLose 107 = .ok (.getfield 13, 3) := by decide +kernel
theorem dX5_wouldLose_110 : decode cX5_wouldLose 110 = .ok (.iload 4, 2) := by decide +kernel
theorem dX5_wouldLose_112 : decode cX5_wouldLose 112 = .ok (.laload, 1) := by decide +kernel
theorem dX5_wouldLose_113 : decode cX5_wouldLose 113 = .ok (.goto 5, 3) := by decide +kernel
theorem dX5_wouldLose_116 : decode cX5_wouldLose 116 = .ok (.lload 5, 2) := by decide +kernel
theorem dX5_wouldLose_118 : decode cX5_wouldLose 118 = .ok (.lsub, 1) := by decide +kernel
theorem dX5_wouldLose_119 : decode cX5_wouldLose 119 = .ok (.lstore_n 2, 1) := by decide +kernel
theorem dX5_wouldLose_120 : decode cX5_wouldLose 120 = .ok (.iinc 4 1, 3) := by decide +kernel
theorem dX5_wouldLose_123 : decode cX5_wouldLose 123 = .ok (.goto (-83), 3) := by decide +kernel
theorem dX5_wouldLose_126 : decode cX5_wouldLose 126 = .ok (.lload_n 2, 1) := by decide +kernel
theorem dX5_wouldLose_127 : decode cX5_wouldLose 127 = .ok (.lconst 0, 1) := by decide +kernel
theorem dX5_wouldLose_128 : decode cX5_wouldLose 128 = .ok (.lcmp, 1) := by decide +kernel
theorem dX5_wouldLose_129 : decode cX5_wouldLose 129 = .ok (.ifCond .le 12, 3) := by decide +kernel
theorem dX5_wouldLose_132 : decode cX5_wouldLose 132 = .ok (.aload_n 0, 1) := by decide +kernel
theorem dX5_wouldLose_133 : decode cX5_wouldLose 133 = .ok (.getfield 149, 3) := by decide +kernel
theorem dX5_wouldLose_136 : decode cX5_wouldLose 136 = .ok (.lload_n 2, 1) := by decide +kernel
theorem dX5_wouldLose_137 : decode cX5_wouldLose 137 = .ok (.ladd, 1) := by decide +kernel
theorem dX5_wouldLose_138 : decode cX5_wouldLose 138 = .ok (.goto 7, 3) := by decide +kernel
theorem dX5_wouldLose_141 : decode cX5_wouldLose 141 = .ok (.aload_n 0, 1) := by decide +kernel
theorem dX5_wouldLose_142 : decode cX5_wouldLose 142 = .ok (.getfield 149, 3) := by decide +kernel
theorem dX5_wouldLose_145 : decode cX5_wouldLose 145 = .ok (.lreturn, 1) := by decide +kernel
theorem dX5_told_0 : decode cX5_told 0 = .ok (.aload_n 0, 1) := by decide +kernel
theorem dX5_told_1 : decode cX5_told 1 = .ok (.aload_n 0, 1) := by decide +kernel
theorem dX5_told_2 : decode cX5_told 2 = .ok (.iload_n 1, 1) := by decide +kernel
theorem dX5_told_3 : decode cX5_told 3 = .ok (.invokevirtual 100, 3) := by decide +kernel
theorem dX5_told_6 : decode cX5_told 6 = .ok (.ifCond .eq 12, 3) := by decide +kernel
theorem dX5_told_9 : decode cX5_told 9 = .ok (.iload_n 2, 1) := by decide +kernel
theorem dX5_told_10 : decode cX5_told 10 = .ok (.ifCond .lt 8, 3) := by decide +kernel
theorem dX5_told_13 : decode cX5_told 13 = .ok (.iload_n 2, 1) := by decide +kernel
theorem dX5_told_14 : decode cX5_told 14 = .ok (.iconst 2, 1) := by decide +kernel
theorem dX5_told_15 : decode cX5_told 15 = .ok (.if_icmp .le 7, 3) := by decide +kernel
theorem dX5_told_18 : decode cX5_told 18 = .ok (.iconst 1, 1) := by decide +kernel
theorem dX5_told_19 : decode cX5_told 19 = .ok (.goto 4, 3) := by decide +kernel
theorem dX5_told_22 : decode cX5_told 22 = .ok (.iconst 0, 1) := by decide +kernel
theorem dX5_told_23 : decode cX5_told 23 = .ok (.putfield 62, 3) := by decide +kernel
theorem dX5_told_26 : decode cX5_told 26 = .ok (.aload_n 0, 1) := by decide +kernel
theorem dX5_told_27 : decode cX5_told 27 = .ok (.getfield 62, 3) := by decide +kernel
theorem dX5_told_30 : decode cX5_told 30 = .ok (.ifCond .le 5, 3) := by decide +kernel
theorem dX5_told_33 : decode cX5_told 33 = .ok (.lconst 0, 1) := by decide +kernel
theorem dX5_told_34 : decode cX5_told 34 = .ok (.lreturn, 1) := by decide +kernel
theorem dX5_told_35 : decode cX5_told 35 = .ok (.iload_n 2, 1) := by decide +kernel
theorem dX5_told_36 : decode cX5_told 36 = .ok (.ifCond .ne 13, 3) := by decide +kernel
theorem dX5_told_39 : decode cX5_told 39 = .ok (.aload_n 0, 1) := by decide +kernel
theorem dX5_told_40 : decode cX5_told 40 = .ok (.getfield 16, 3) := by decide +kernel
theorem dX5_told_43 : decode cX5_told 43 = .ok (.iload_n 1, 1) := by decide +kernel
theorem dX5_told_44 : decode cX5_told 44 = .ok (.iaload, 1) := by decide +kernel
theorem dX5_told_45 : decode cX5_told 45 = .ok (.i2l, 1) := by decide +kernel
theorem dX5_told_46 : decode cX5_told 46 = .ok (.goto 23, 3) := by decide +kernel
theorem dX5_told_49 : decode cX5_told 49 = .ok (.iload_n 2, 1) := by decide +kernel
theorem dX5_told_50 : decode cX5_told 50 = .ok (.iconst 1, 1) := by decide +kernel
theorem dX5_told_51 : decode cX5_told 51 = .ok (.if_icmp .ne 12, 3) := by decide +kernel
theorem dX5_told_54 : decode cX5_told 54 = .ok (.aload_n 0, 1) := by decide +kernel
theorem dX5_told_55 : decode cX5_told 55 = .ok (.getfield 7, 3) := by decide +kernel
theorem dX5_told_58 : decode cX5_told 58 = .ok (.iload_n 1, 1) := by decide +kernel
theorem dX5_told_59 : decode cX5_told 59 = .ok (.laload, 1) := by decide +kernel
theorem dX5_told_60 : decode cX5_told 60 = .ok (.goto 9, 3) := by decide +kernel
theorem dX5_told_63 : decode cX5_told 63 = .ok (.aload_n 0, 1) := by decide +kernel
theorem dX5_told_64 : decode cX5_told 64 = .ok (.getfield 13, 3) := by decide +kernel
theorem dX5_told_67 : decode cX5_told 67 = .ok (.iload_n 1, 1) := by decide +kernel
theorem dX5_told_68 : decode cX5_told 68 = .ok (.laload, 1) := by decide +kernel
theorem dX5_told_69 : decode cX5_told 69 = .ok (.lreturn, 1) := by decide +kernel
theorem dX5_position_0 : decode cX5_position 0 = .ok (.aload_n 0, 1) := by decide +kernel
theorem dX5_position_1 : decode cX5_position 1 = .ok (.aload_n 0, 1) := by decide +kernel
theorem dX5_position_2 : decode cX5_position 2 = .ok (.iload_n 1, 1) := by decide +kernel
theorem dX5_position_3 : decode cX5_position 3 = .ok (.invokevirtual 100, 3) := by decide +kernel
theorem dX5_position_6 : decode cX5_position 6 = .ok (.ifCond .eq 11, 3) := by decide +kernel
theorem dX5_position_9 : decode cX5_position 9 = .ok (.aload_n 0, 1) := by decide +kernel
theorem dX5_position_10 : decode cX5_position 10 = .ok (.iload_n 2, 1) := by decide +kernel
theorem dX5_position_11 : decode cX5_position 11 = .ok (.invokevirtual 94, 3) := by decide +kernel
theorem dX5_position_14 : decode cX5_position 14 = .ok (.ifCond .ne 7, 3) := by decide +kernel
theorem dX5_position_17 : decode cX5_position 17 = .ok (.iconst 1, 1) := by decide +kernel
theorem dX5_position_18 : decode cX5_position 18 = .ok (.goto 4, 3) := by decide +kernel
theorem dX5_position_21 : decode cX5_position 21 = .ok (.iconst 0, 1) := by decide +kernel
theorem dX5_position_22 : decode cX5_position 22 = .ok (.putfield 62, 3) := by decide +kernel
theorem dX5_position_25 : decode cX5_position 25 = .ok (.aload_n 0, 1) := by decide +kernel
theorem dX5_position_26 : decode cX5_position 26 = .ok (.getfield 62, 3) := by decide +kernel
theorem dX5_position_29 : decode cX5_position 29 = .ok (.ifCond .le 7, 3) := by decide +kernel
theorem dX5_position_32 : decode cX5_position 32 = .ok (.iconst 0, 1) := by decide +kernel
theorem dX5_position_33 : decode cX5_position 33 = .ok (.goto 14, 3) := by decide +kernel
theorem dX5_position_36 : decode cX5_position 36 = .ok (.aload_n 0, 1) := by decide +kernel
theorem dX5_position_37 : decode cX5_position 37 = .ok (.getfield 20, 3) := by decide +kernel
theorem dX5_position_40 : decode cX5_position 40 = .ok (.bipush 6, 2) := by decide +kernel
theorem dX5_position_42 : decode cX5_position 42 = .ok (.iload_n 1, 1) := by decide +kernel
theorem dX5_position_43 : decode cX5_position 43 = .ok (.imul, 1) := by decide +kernel
theorem dX5_position_44 : decode cX5_position 44 = .ok (.iload_n 2, 1) := by decide +kernel
theorem dX5_position_45 : decode cX5_position 45 = .ok (.iadd, 1) := by decide +kernel
theorem dX5_position_46 : decode cX5_position 46 = .ok (.iaload, 1) := by decide +kernel
theorem dX5_position_47 : decode cX5_position 47 = .ok (.ireturn, 1) := by decide +kernel
theorem dX5_bore_0 : decode cX5_bore 0 = .ok (.aload_n 0, 1) := by decide +kernel
theorem dX5_bore_1 : decode cX5_bore 1 = .ok (.iload_n 1, 1) := by decide +kernel
theorem dX5_bore_2 : decode cX5_bore 2 = .ok (.ifCond .lt 8, 3) := by decide +kernel
theorem dX5_bore_5 : decode cX5_bore 5 = .ok (.iload_n 1, 1) := by decide +kernel
theorem dX5_bore_6 : decode cX5_bore 6 = .ok (.iconst 4, 1) := by decide +kernel
theorem dX5_bore_7 : decode cX5_bore 7 = .ok (.if_icmp .le 7, 3) := by decide +kernel
theorem dX5_bore_10 : decode cX5_bore 10 = .ok (.iconst 1, 1) := by decide +kernel
theorem dX5_bore_11 : decode cX5_bore 11 = .ok (.goto 4, 3) := by decide +kernel
theorem dX5_bore_14 : decode cX5_bore 14 = .ok (.iconst 0, 1) := by decide +kernel
theorem dX5_bore_15 : decode cX5_bore 15 = .ok (.putfield 62, 3) := by decide +kernel
theorem dX5_bore_18 : decode cX5_bore 18 = .ok (.aload_n 0, 1) := by decide +kernel
theorem dX5_bore_19 : decode cX5_bore 19 = .ok (.getfield 62, 3) := by decide +kernel
theorem dX5_bore_22 : decode cX5_bore 22 = .ok (.ifCond .le 7, 3) := by decide +kernel
theorem dX5_bore_25 : decode cX5_bore 25 = .ok (.lconst 0, 1) := by decide +kernel
theorem dX5_bore_26 : decode cX5_bore 26 = .ok (.goto 9, 3) := by decide +kernel
theorem dX5_bore_29 : decode cX5_bore 29 = .ok (.aload_n 0, 1) := by decide +kernel
theorem dX5_bore_30 : decode cX5_bore 30 = .ok (.getfield 38, 3) := by decide +kernel
theorem dX5_bore_33 : decode cX5_bore 33 = .ok (.iload_n 1, 1) := by decide +kernel
theorem dX5_bore_34 : decode cX5_bore 34 = .ok (.laload, 1) := by decide +kernel
theorem dX5_bore_35 : decode cX5_bore 35 = .ok (.lreturn, 1) := by decide +kernel
theorem dX5_all_0 : decode cX5_all 0 = .ok (.aload_n 0, 1) := by decide +kernel
theorem dX5_all_1 : decode cX5_all 1 = .ok (.iload_n 1, 1) := by decide +kernel
theorem dX5_all_2 : decode cX5_all 2 = .ok (.ifCond .lt 8, 3) := by decide +kernel
theorem dX5_all_5 : decode cX5_all 5 = .ok (.iload_n 1, 1) := by decide +kernel
theorem dX5_all_6 : decode cX5_all 6 = .ok (.iconst 5, 1) := by decide +kernel
theorem dX5_all_7 : decode cX5_all 7 = .ok (.if_icmp .le 7, 3) := by decide +kernel
theorem dX5_all_10 : decode cX5_all 10 = .ok (.iconst 1, 1) := by decide +kernel
theorem dX5_all_11 : decode cX5_all 11 = .ok (.goto 4, 3) := by decide +kernel
theorem dX5_all_14 : decode cX5_all 14 = .ok (.iconst 0, 1) := by decide +kernel
theorem dX5_all_15 : decode cX5_all 15 = .ok (.putfield 62, 3) := by decide +kernel
theorem dX5_all_18 : decode cX5_all 18 = .ok (.aload_n 0, 1) := by decide +kernel
theorem dX5_all_19 : decode cX5_all 19 = .ok (.getfield 62, 3) := by decide +kernel
theorem dX5_all_22 : decode cX5_all 22 = .ok (.ifCond .le 5, 3) := by decide +kernel
theorem dX5_all_25 : decode cX5_all 25 = .ok (.lconst 0, 1) := by decide +kernel
theorem dX5_all_26 : decode cX5_all 26 = .ok (.lreturn, 1) := by decide +kernel
theorem dX5_all_27 : decode cX5_all 27 = .ok (.lconst 0, 1) := by decide +kernel
theorem dX5_all_28 : decode cX5_all 28 = .ok (.lstore_n 2, 1) := by decide +kernel
theorem dX5_all_29 : decode cX5_all 29 = .ok (.iconst 0, 1) := by decide +kernel
theorem dX5_all_30 : decode cX5_all 30 = .ok (.istore 4, 2) := by decide +kernel
theorem dX5_all_32 : decode cX5_all 32 = .ok (.iload 4, 2) := by decide +kernel
theorem dX5_all_34 : decode cX5_all 34 = .ok (.aload_n 0, 1) := by decide +kernel
theorem dX5_all_35 : decode cX5_all 35 = .ok (.getfield 66, 3) := by decide +kernel
theorem dX5_all_38 : decode cX5_all 38 = .ok (.if_icmp .ge 43, 3) := by decide +kernel
theorem dX5_all_41 : decode cX5_all 41 = .ok (.lload_n 2, 1) := by decide +kernel
theorem dX5_all_42 : decode cX5_all 42 = .ok (.iload_n 1, 1) := by decide +kernel
theorem dX5_all_43 : decode cX5_all 43 = .ok (.iconst 2, 1) := by decide +kernel
theorem dX5_all_44 : decode cX5_all 44 = .ok (.if_icmp .ne 13, 3) := by decide +kernel
theorem dX5_all_47 : decode cX5_all 47 = .ok (.aload_n 0, 1) := by decide +kernel
theorem dX5_all_48 : decode cX5_all 48 = .ok (.getfield 7, 3) := by decide +kernel
theorem dX5_all_51 : decode cX5_all 51 = .ok (.iload 4, 2) := by decide +kernel
theorem dX5_all_53 : decode cX5_all 53 = .ok (.laload, 1) := by decide +kernel
theorem dX5_all_54 : decode cX5_all 54 = .ok (.goto 19, 3) := by decide +kernel
theorem dX5_all_57 : decode cX5_all 57 = .ok (.iload_n 1, 1) := by decide +kernel
theorem dX5_all_58 : decode cX5_all 58 = .ok (.iconst 3, 1) := by decide +kernel
theorem dX5_all_59 : decode cX5_all 59 = .ok (.if_icmp .ne 13, 3) := by decide +kernel
theorem dX5_all_62 : decode cX5_all 62 = .ok (.aload_n 0, 1) := by decide +kernel
theorem dX5_all_63 : decode cX5_all 63 = .ok (.getfield 13, 3) := by decide +kernel
theorem dX5_all_66 : decode cX5_all 66 = .ok (.iload 4, 2) := by decide +kernel
theorem dX5_all_68 : decode cX5_all 68 = .ok (.laload, 1) := by decide +kernel
theorem dX5_all_69 : decode cX5_all 69 = .ok (.goto 4, 3) := by decide +kernel
theorem dX5_all_72 : decode cX5_all 72 = .ok (.lconst 0, 1) := by decide +kernel
theorem dX5_all_73 : decode cX5_all 73 = .ok (.ladd, 1) := by decide +kernel
theorem dX5_all_74 : decode cX5_all 74 = .ok (.lstore_n 2, 1) := by decide +kernel
theorem dX5_all_75 : decode cX5_all 75 = .ok (.iinc 4 1, 3) := by decide +kernel
theorem dX5_all_78 : decode cX5_all 78 = .ok (.goto (-46), 3) := by decide +kernel
theorem dX5_all_81 : decode cX5_all 81 = .ok (.iconst 0, 1) := by decide +kernel
theorem dX5_all_82 : decode cX5_all 82 = .ok (.istore 4, 2) := by decide +kernel
theorem dX5_all_84 : decode cX5_all 84 = .ok (.iload 4, 2) := by decide +kernel
theorem dX5_all_86 : decode cX5_all 86 = .ok (.bipush 48, 2) := by decide +kernel
theorem dX5_all_88 : decode cX5_all 88 = .ok (.if_icmp .ge 39, 3) := by decide +kernel
theorem dX5_all_91 : decode cX5_all 91 = .ok (.iload_n 1, 1) := by decide +kernel
theorem dX5_all_92 : decode cX5_all 92 = .ok (.iconst 5, 1) := by decide +kernel
theorem dX5_all_93 : decode cX5_all 93 = .ok (.if_icmp .ne 34, 3) := by decide +kernel
theorem dX5_all_96 : decode cX5_all 96 = .ok (.lload_n 2, 1) := by decide +kernel
theorem dX5_all_97 : decode cX5_all 97 = .ok (.aload_n 0, 1) := by decide +kernel
theorem dX5_all_98 : decode cX5_all 98 = .ok (.getfield 20, 3) := by decide +kernel
theorem dX5_all_101 : decode cX5_all 101 = .ok (.iload 4, 2) := by decide +kernel
theorem dX5_all_103 : decode cX5_all 103 = .ok (.iaload, 1) := by decide +kernel
theorem dX5_all_104 : decode cX5_all 104 = .ok (.ifCond .le 13, 3) := by decide +kernel
theorem dX5_all_107 : decode cX5_all 107 = .ok (.aload_n 0, 1) := by decide +kernel
theorem dX5_all_108 : decode cX5_all 108 = .ok (.getfield 20, 3) := by decide +kernel
theorem dX5_all_111 : decode cX5_all 111 = .ok (.iload 4, 2) := by decide +kernel
theorem dX5_all_113 : decode cX5_all 113 = .ok (.iaload, 1) := by decide +kernel
theorem dX5_all_114 : decode cX5_all 114 = .ok (.goto 4, 3) := by decide +kernel
theorem dX5_all_117 : decode cX5_all 117 = .ok (.iconst 0, 1) := by decide +kernel
theorem dX5_all_118 : decode cX5_all 118 = .ok (.i2l, 1) := by decide +kernel
theorem dX5_all_119 : decode cX5_all 119 = .ok (.ladd, 1) := by decide +kernel
theorem dX5_all_120 : decode cX5_all 120 = .ok (.lstore_n 2, 1) := by decide +kernel
theorem dX5_all_121 : decode cX5_all 121 = .ok (.iinc 4 1, 3) := by decide +kernel
theorem dX5_all_124 : decode cX5_all 124 = .ok (.goto (-40), 3) := by decide +kernel
theorem dX5_all_127 : decode cX5_all 127 = .ok (.iload_n 1, 1) := by decide +kernel
theorem dX5_all_128 : decode cX5_all 128 = .ok (.ifCond .ne 10, 3) := by decide +kernel
theorem dX5_all_131 : decode cX5_all 131 = .ok (.aload_n 0, 1) := by decide +kernel
theorem dX5_all_132 : decode cX5_all 132 = .ok (.getfield 84, 3) := by decide +kernel
theorem dX5_all_135 : decode cX5_all 135 = .ok (.goto 28, 3) := by decide +kernel
theorem dX5_all_138 : decode cX5_all 138 = .ok (.iload_n 1, 1) := by decide +kernel
theorem dX5_all_139 : decode cX5_all 139 = .ok (.iconst 1, 1) := by decide +kernel
theorem dX5_all_140 : decode cX5_all 140 = .ok (.if_icmp .ne 10, 3) := by decide +kernel
theorem dX5_all_143 : decode cX5_all 143 = .ok (.aload_n 0, 1) := by decide +kernel
theorem dX5_all_144 : decode cX5_all 144 = .ok (.getfield 149, 3) := by decide +kernel
theorem dX5_all_147 : decode cX5_all 147 = .ok (.goto 16, 3) := by decide +kernel
theorem dX5_all_150 : decode cX5_all 150 = .ok (.iload_n 1, 1) := by decide +kernel
theorem dX5_all_151 : decode cX5_all 151 = .ok (.iconst 4, 1) := by decide +kernel
theorem dX5_all_152 : decode cX5_all 152 = .ok (.if_icmp .ne 10, 3) := by decide +kernel
theorem dX5_all_155 : decode cX5_all 155 = .ok (.aload_n 0, 1) := by decide +kernel
theorem dX5_all_156 : decode cX5_all 156 = .ok (.getfield 111, 3) := by decide +kernel
theorem dX5_all_159 : decode cX5_all 159 = .ok (.goto 4, 3) := by decide +kernel
theorem dX5_all_162 : decode cX5_all 162 = .ok (.lload_n 2, 1) := by decide +kernel
theorem dX5_all_163 : decode cX5_all 163 = .ok (.lreturn, 1) := by decide +kernel
