theorem dX0_init_0 : decode cX0_init 0 = .ok (.aload_n 0, 1) := by decide +kernel
theorem dX0_init_1 : decode cX0_init 1 = .ok (.invokespecial 1, 3) := by decide +kernel
theorem dX0_init_4 : decode cX0_init 4 = .ok (.aload_n 0, 1) := by decide +kernel
theorem dX0_init_5 : decode cX0_init 5 = .ok (.iconst 0, 1) := by decide +kernel
theorem dX0_init_6 : decode cX0_init 6 = .ok (.putfield 7, 3) := by decide +kernel
theorem dX0_init_9 : decode cX0_init 9 = .ok (.aload_n 0, 1) := by decide +kernel
theorem dX0_init_10 : decode cX0_init 10 = .ok (.iconst 0, 1) := by decide +kernel
theorem dX0_init_11 : decode cX0_init 11 = .ok (.putfield 13, 3) := by decide +kernel
theorem dX0_init_14 : decode cX0_init 14 = .ok (.aload_n 0, 1) := by decide +kernel
theorem dX0_init_15 : decode cX0_init 15 = .ok (.iconst 0, 1) := by decide +kernel
theorem dX0_init_16 : decode cX0_init 16 = .ok (.putfield 16, 3) := by decide +kernel
theorem dX0_init_19 : decode cX0_init 19 = .ok (.return_, 1) := by decide +kernel
theorem dX1_init_0 : decode cX1_init 0 = .ok (.aload_n 0, 1) := by decide +kernel
theorem dX1_init_1 : decode cX1_init 1 = .ok (.invokespecial 3, 3) := by decide +kernel
theorem dX1_init_4 : decode cX1_init 4 = .ok (.aload_n 0, 1) := by decide +kernel
theorem dX1_init_5 : decode cX1_init 5 = .ok (.bipush 6, 2) := by decide +kernel
theorem dX1_init_7 : decode cX1_init 7 = .ok (.newarray .int, 2) := by decide +kernel
theorem dX1_init_9 : decode cX1_init 9 = .ok (.putfield 9, 3) := by decide +kernel
theorem dX1_init_12 : decode cX1_init 12 = .ok (.aload_n 0, 1) := by decide +kernel
theorem dX1_init_13 : decode cX1_init 13 = .ok (.bipush 6, 2) := by decide +kernel
theorem dX1_init_15 : decode cX1_init 15 = .ok (.newarray .int, 2) := by decide +kernel
theorem dX1_init_17 : decode cX1_init 17 = .ok (.putfield 15, 3) := by decide +kernel
theorem dX1_init_20 : decode cX1_init 20 = .ok (.aload_n 0, 1) := by decide +kernel
theorem dX1_init_21 : decode cX1_init 21 = .ok (.iconst 0, 1) := by decide +kernel
theorem dX1_init_22 : decode cX1_init 22 = .ok (.putfield 18, 3) := by decide +kernel
theorem dX1_init_25 : decode cX1_init 25 = .ok (.aload_n 0, 1) := by decide +kernel
theorem dX1_init_26 : decode cX1_init 26 = .ok (.lconst 0, 1) := by decide +kernel
theorem dX1_init_27 : decode cX1_init 27 = .ok (.putfield 22, 3) := by decide +kernel
theorem dX1_init_30 : decode cX1_init 30 = .ok (.aload_n 0, 1) := by decide +kernel
theorem dX1_init_31 : decode cX1_init 31 = .ok (.lconst 0, 1) := by decide +kernel
theorem dX1_init_32 : decode cX1_init 32 = .ok (.putfield 26, 3) := by decide +kernel
theorem dX1_init_35 : decode cX1_init 35 = .ok (.return_, 1) := by decide +kernel
theorem dX2_init_0 : decode cX2_init 0 = .ok (.aload_n 0, 1) := by decide +kernel
theorem dX2_init_1 : decode cX2_init 1 = .ok (.invokespecial 3, 3) := by decide +kernel
theorem dX2_init_4 : decode cX2_init 4 = .ok (.aload_n 0, 1) := by decide +kernel
theorem dX2_init_5 : decode cX2_init 5 = .ok (.bipush 6, 2) := by decide +kernel
theorem dX2_init_7 : decode cX2_init 7 = .ok (.newarray .int, 2) := by decide +kernel
theorem dX2_init_9 : decode cX2_init 9 = .ok (.putfield 9, 3) := by decide +kernel
theorem dX2_init_12 : decode cX2_init 12 = .ok (.aload_n 0, 1) := by decide +kernel
theorem dX2_init_13 : decode cX2_init 13 = .ok (.bipush 8, 2) := by decide +kernel
theorem dX2_init_15 : decode cX2_init 15 = .ok (.newarray .long, 2) := by decide +kernel
theorem dX2_init_17 : decode cX2_init 17 = .ok (.putfield 15, 3) := by decide +kernel
theorem dX2_init_20 : decode cX2_init 20 = .ok (.aload_n 0, 1) := by decide +kernel
theorem dX2_init_21 : decode cX2_init 21 = .ok (.bipush 8, 2) := by decide +kernel
theorem dX2_init_23 : decode cX2_init 23 = .ok (.newarray .long, 2) := by decide +kernel
theorem dX2_init_25 : decode cX2_init 25 = .ok (.putfield 19, 3) := by decide +kernel
theorem dX2_init_28 : decode cX2_init 28 = .ok (.aload_n 0, 1) := by decide +kernel
theorem dX2_init_29 : decode cX2_init 29 = .ok (.iconst 5, 1) := by decide +kernel
theorem dX2_init_30 : decode cX2_init 30 = .ok (.newarray .long, 2) := by decide +kernel
theorem dX2_init_32 : decode cX2_init 32 = .ok (.putfield 22, 3) := by decide +kernel
theorem dX2_init_35 : decode cX2_init 35 = .ok (.aload_n 0, 1) := by decide +kernel
theorem dX2_init_36 : decode cX2_init 36 = .ok (.new 25, 3) := by decide +kernel
theorem dX2_init_39 : decode cX2_init 39 = .ok (.dup, 1) := by decide +kernel
theorem dX2_init_40 : decode cX2_init 40 = .ok (.invokespecial 27, 3) := by decide +kernel
theorem dX2_init_43 : decode cX2_init 43 = .ok (.putfield 28, 3) := by decide +kernel
theorem dX2_init_46 : decode cX2_init 46 = .ok (.aload_n 0, 1) := by decide +kernel
theorem dX2_init_47 : decode cX2_init 47 = .ok (.lconst 0, 1) := by decide +kernel
theorem dX2_init_48 : decode cX2_init 48 = .ok (.putfield 32, 3) := by decide +kernel
theorem dX2_init_51 : decode cX2_init 51 = .ok (.aload_n 0, 1) := by decide +kernel
theorem dX2_init_52 : decode cX2_init 52 = .ok (.lconst 0, 1) := by decide +kernel
theorem dX2_init_53 : decode cX2_init 53 = .ok (.putfield 36, 3) := by decide +kernel
theorem dX2_init_56 : decode cX2_init 56 = .ok (.return_, 1) := by decide +kernel
theorem dX2_startLayers_0 : decode cX2_startLayers 0 = .ok (.aload_n 0, 1) := by decide +kernel
theorem dX2_startLayers_1 : decode cX2_startLayers 1 = .ok (.lconst 0, 1) := by decide +kernel
theorem dX2_startLayers_2 : decode cX2_startLayers 2 = .ok (.aload_n 0, 1) := by decide +kernel
theorem dX2_startLayers_3 : decode cX2_startLayers 3 = .ok (.getfield 15, 3) := by decide +kernel
theorem dX2_startLayers_6 : decode cX2_startLayers 6 = .ok (.iload_n 1, 1) := by decide +kernel
theorem dX2_startLayers_7 : decode cX2_startLayers 7 = .ok (.laload, 1) := by decide +kernel
theorem dX2_startLayers_8 : decode cX2_startLayers 8 = .ok (.lneg, 1) := by decide +kernel
theorem dX2_startLayers_9 : decode cX2_startLayers 9 = .ok (.invokestatic 39, 3) := by decide +kernel
theorem dX2_startLayers_12 : decode cX2_startLayers 12 = .ok (.putfield 36, 3) := by decide +kernel
theorem dX2_startLayers_15 : decode cX2_startLayers 15 = .ok (.aload_n 0, 1) := by decide +kernel
theorem dX2_startLayers_16 : decode cX2_startLayers 16 = .ok (.getfield 15, 3) := by decide +kernel
theorem dX2_startLayers_19 : decode cX2_startLayers 19 = .ok (.iload_n 1, 1) := by decide +kernel
theorem dX2_startLayers_20 : decode cX2_startLayers 20 = .ok (.dup2, 1) := by decide +kernel
theorem dX2_startLayers_21 : decode cX2_startLayers 21 = .ok (.laload, 1) := by decide +kernel
theorem dX2_startLayers_22 : decode cX2_startLayers 22 = .ok (.aload_n 0, 1) := by decide +kernel
theorem dX2_startLayers_23 : decode cX2_startLayers 23 = .ok (.getfield 36, 3) := by decide +kernel
theorem dX2_startLayers_26 : decode cX2_startLayers 26 = .ok (.ladd, 1) := by decide +kernel
theorem dX2_startLayers_27 : decode cX2_startLayers 27 = .ok (.lastore, 1) := by decide +kernel
theorem dX2_startLayers_28 : decode cX2_startLayers 28 = .ok (.iconst 0, 1) := by decide +kernel
theorem dX2_startLayers_29 : decode cX2_startLayers 29 = .ok (.istore_n 2, 1) := by decide +kernel
theorem dX2_startLayers_30 : decode cX2_startLayers 30 = .ok (.iload_n 2, 1) := by decide +kernel
theorem dX2_startLayers_31 : decode cX2_startLayers 31 = .ok (.iconst 5, 1) := by decide +kernel
theorem dX2_startLayers_32 : decode cX2_startLayers 32 = .ok (.if_icmp .ge 16, 3) := by decide +kernel
theorem dX2_startLayers_35 : decode cX2_startLayers 35 = .ok (.aload_n 0, 1) := by decide +kernel
theorem dX2_startLayers_36 : decode cX2_startLayers 36 = .ok (.getfield 22, 3) := by decide +kernel
theorem dX2_startLayers_39 : decode cX2_startLayers 39 = .ok (.iload_n 2, 1) := by decide +kernel
theorem dX2_startLayers_40 : decode cX2_startLayers 40 = .ok (.lconst 0, 1) := by decide +kernel
theorem dX2_startLayers_41 : decode cX2_startLayers 41 = .ok (.lastore, 1) := by decide +kernel
theorem dX2_startLayers_42 : decode cX2_startLayers 42 = .ok (.iinc 2 1, 3) := by decide +kernel
theorem dX2_startLayers_45 : decode cX2_startLayers 45 = .ok (.goto (-15), 3) := by decide +kernel
theorem dX2_startLayers_48 : decode cX2_startLayers 48 = .ok (.return_, 1) := by decide +kernel
theorem dX2_bearByOwnContribution_0 : decode cX2_bearByOwnContribution 0 = .ok (.aload_n 0, 1) := by decide +kernel
theorem dX2_bearByOwnContribution_1 : decode cX2_bearByOwnContribution 1 = .ok (.getfield 36, 3) := by decide +kernel
theorem dX2_bearByOwnContribution_4 : decode cX2_bearByOwnContribution 4 = .ok (.aload_n 0, 1) := by decide +kernel
theorem dX2_bearByOwnContribution_5 : decode cX2_bearByOwnContribution 5 = .ok (.getfield 19, 3) := by decide +kernel
theorem dX2_bearByOwnContribution_8 : decode cX2_bearByOwnContribution 8 = .ok (.iload_n 1, 1) := by decide +kernel
theorem dX2_bearByOwnContribution_9 : decode cX2_bearByOwnContribution 9 = .ok (.laload, 1) := by decide +kernel
theorem dX2_bearByOwnContribution_10 : decode cX2_bearByOwnContribution 10 = .ok (.invokestatic 45, 3) := by decide +kernel
theorem dX2_bearByOwnContribution_13 : decode cX2_bearByOwnContribution 13 = .ok (.lstore_n 2, 1) := by decide +kernel
theorem dX2_bearByOwnContribution_14 : decode cX2_bearByOwnContribution 14 = .ok (.aload_n 0, 1) := by decide +kernel
theorem dX2_bearByOwnContribution_15 : decode cX2_bearByOwnContribution 15 = .ok (.getfield 19, 3) := by decide +kernel
theorem dX2_bearByOwnContribution_18 : decode cX2_bearByOwnContribution 18 = .ok (.iload_n 1, 1) := by decide +kernel
theorem dX2_bearByOwnContribution_19 : decode cX2_bearByOwnContribution 19 = .ok (.dup2, 1) := by decide +kernel
theorem dX2_bearByOwnContribution_20 : decode cX2_bearByOwnContribution 20 = .ok (.laload, 1) := by decide +kernel
theorem dX2_bearByOwnContribution_21 : decode cX2_bearByOwnContribution 21 = .ok (.lload_n 2, 1) := by decide +kernel
theorem dX2_bearByOwnContribution_22 : decode cX2_bearByOwnContribution 22 = .ok (.lsub, 1) := by decide +kernel
theorem dX2_bearByOwnContribution_23 : decode cX2_bearByOwnContribution 23 = .ok (.lastore, 1) := by decide +kernel
theorem dX2_bearByOwnContribution_24 : decode cX2_bearByOwnContribution 24 = .ok (.aload_n 0, 1) := by decide +kernel
theorem dX2_bearByOwnContribution_25 : decode cX2_bearByOwnContribution 25 = .ok (.iconst 0, 1) := by decide +kernel
theorem dX2_bearByOwnContribution_26 : decode cX2_bearByOwnContribution 26 = .ok (.lload_n 2, 1) := by decide +kernel
theorem dX2_bearByOwnContribution_27 : decode cX2_bearByOwnContribution 27 = .ok (.invokevirtual 48, 3) := by decide +kernel
theorem dX2_bearByOwnContribution_30 : decode cX2_bearByOwnContribution 30 = .ok (.return_, 1) := by decide +kernel
theorem dX2_bearByCapital_0 : decode cX2_bearByCapital 0 = .ok (.aload_n 0, 1) := by decide +kernel
theorem dX2_bearByCapital_1 : decode cX2_bearByCapital 1 = .ok (.getfield 36, 3) := by decide +kernel
theorem dX2_bearByCapital_4 : decode cX2_bearByCapital 4 = .ok (.aload_n 0, 1) := by decide +kernel
theorem dX2_bearByCapital_5 : decode cX2_bearByCapital 5 = .ok (.getfield 32, 3) := by decide +kernel
theorem dX2_bearByCapital_8 : decode cX2_bearByCapital 8 = .ok (.invokestatic 45, 3) := by decide +kernel
theorem dX2_bearByCapital_11 : decode cX2_bearByCapital 11 = .ok (.lstore_n 1, 1) := by decide +kernel
theorem dX2_bearByCapital_12 : decode cX2_bearByCapital 12 = .ok (.aload_n 0, 1) := by decide +kernel
theorem dX2_bearByCapital_13 : decode cX2_bearByCapital 13 = .ok (.dup, 1) := by decide +kernel
theorem dX2_bearByCapital_14 : decode cX2_bearByCapital 14 = .ok (.getfield 32, 3) := by decide +kernel
theorem dX2_bearByCapital_17 : decode cX2_bearByCapital 17 = .ok (.lload_n 1, 1) := by decide +kernel
theorem dX2_bearByCapital_18 : decode cX2_bearByCapital 18 = .ok (.lsub, 1) := by decide +kernel
theorem dX2_bearByCapital_19 : decode cX2_bearByCapital 19 = .ok (.putfield 32, 3) := by decide +kernel
theorem dX2_bearByCapital_22 : decode cX2_bearByCapital 22 = .ok (.aload_n 0, 1) := by decide +kernel
theorem dX2_bearByCapital_23 : decode cX2_bearByCapital 23 = .ok (.iconst 1, 1) := by decide +kernel
theorem dX2_bearByCapital_24 : decode cX2_bearByCapital 24 = .ok (.lload_n 1, 1) := by decide +kernel
theorem dX2_bearByCapital_25 : decode cX2_bearByCapital 25 = .ok (.invokevirtual 48, 3) := by decide +kernel
theorem dX2_bearByCapital_28 : decode cX2_bearByCapital 28 = .ok (.return_, 1) := by decide +kernel
theorem dX2_bearByContributions_0 : decode cX2_bearByContributions 0 = .ok (.aload_n 0, 1) := by decide +kernel
theorem dX2_bearByContributions_1 : decode cX2_bearByContributions 1 = .ok (.getfield 28, 3) := by decide +kernel
theorem dX2_bearByContributions_4 : decode cX2_bearByContributions 4 = .ok (.aload_n 0, 1) := by decide +kernel
theorem dX2_bearByContributions_5 : decode cX2_bearByContributions 5 = .ok (.getfield 36, 3) := by decide +kernel
theorem dX2_bearByContributions_8 : decode cX2_bearByContributions 8 = .ok (.invokevirtual 52, 3) := by decide +kernel
theorem dX2_bearByContributions_11 : decode cX2_bearByContributions 11 = .ok (.iconst 0, 1) := by decide +kernel
theorem dX2_bearByContributions_12 : decode cX2_bearByContributions 12 = .ok (.istore_n 1, 1) := by decide +kernel
theorem dX2_bearByContributions_13 : decode cX2_bearByContributions 13 = .ok (.iload_n 1, 1) := by decide +kernel
theorem dX2_bearByContributions_14 : decode cX2_bearByContributions 14 = .ok (.bipush 8, 2) := by decide +kernel
theorem dX2_bearByContributions_16 : decode cX2_bearByContributions 16 = .ok (.if_icmp .ge 41, 3) := by decide +kernel
theorem dX2_bearByContributions_19 : decode cX2_bearByContributions 19 = .ok (.aload_n 0, 1) := by decide +kernel
theorem dX2_bearByContributions_20 : decode cX2_bearByContributions 20 = .ok (.getfield 19, 3) := by decide +kernel
theorem dX2_bearByContributions_23 : decode cX2_bearByContributions 23 = .ok (.iload_n 1, 1) := by decide +kernel
theorem dX2_bearByContributions_24 : decode cX2_bearByContributions 24 = .ok (.dup2, 1) := by decide +kernel
theorem dX2_bearByContributions_25 : decode cX2_bearByContributions 25 = .ok (.laload, 1) := by decide +kernel
theorem dX2_bearByContributions_26 : decode cX2_bearByContributions 26 = .ok (.aload_n 0, 1) := by decide +kernel
theorem dX2_bearByContributions_27 : decode cX2_bearByContributions 27 = .ok (.getfield 28, 3) := by decide +kernel
theorem dX2_bearByContributions_30 : decode cX2_bearByContributions 30 = .ok (.getfield 56, 3) := by decide +kernel
theorem dX2_bearByContributions_33 : decode cX2_bearByContributions 33 = .ok (.iload_n 1, 1) := by decide +kernel
theorem dX2_bearByContributions_34 : decode cX2_bearByContributions 34 = .ok (.laload, 1) := by decide +kernel
theorem dX2_bearByContributions_35 : decode cX2_bearByContributions 35 = .ok (.lsub, 1) := by decide +kernel
theorem dX2_bearByContributions_36 : decode cX2_bearByContributions 36 = .ok (.lastore, 1) := by decide +kernel
theorem dX2_bearByContributions_37 : decode cX2_bearByContributions 37 = .ok (.aload_n 0, 1) := by decide +kernel
theorem dX2_bearByContributions_38 : decode cX2_bearByContributions 38 = .ok (.iconst 2, 1) := by decide +kernel
theorem dX2_bearByContributions_39 : decode cX2_bearByContributions 39 = .ok (.aload_n 0, 1) := by decide +kernel
theorem dX2_bearByContributions_40 : decode cX2_bearByContributions 40 = .ok (.getfield 28, 3) := by decide +kernel
theorem dX2_bearByContributions_43 : decode cX2_bearByContributions 43 = .ok (.getfield 56, 3) := by decide +kernel
theorem dX2_bearByContributions_46 : decode cX2_bearByContributions 46 = .ok (.iload_n 1, 1) := by decide +kernel
theorem dX2_bearByContributions_47 : decode cX2_bearByContributions 47 = .ok (.laload, 1) := by decide +kernel
theorem dX2_bearByContributions_48 : decode cX2_bearByContributions 48 = .ok (.invokevirtual 48, 3) := by decide +kernel
theorem dX2_bearByContributions_51 : decode cX2_bearByContributions 51 = .ok (.iinc 1 1, 3) := by decide +kernel
theorem dX2_bearByContributions_54 : decode cX2_bearByContributions 54 = .ok (.goto (-41), 3) := by decide +kernel
theorem dX2_bearByContributions_57 : decode cX2_bearByContributions 57 = .ok (.return_, 1) := by decide +kernel
theorem dX2_bearByCalls_0 : decode cX2_bearByCalls 0 = .ok (.aload_n 0, 1) := by decide +kernel
theorem dX2_bearByCalls_1 : decode cX2_bearByCalls 1 = .ok (.getfield 28, 3) := by decide +kernel
theorem dX2_bearByCalls_4 : decode cX2_bearByCalls 4 = .ok (.aload_n 0, 1) := by decide +kernel
theorem dX2_bearByCalls_5 : decode cX2_bearByCalls 5 = .ok (.getfield 36, 3) := by decide +kernel
theorem dX2_bearByCalls_8 : decode cX2_bearByCalls 8 = .ok (.invokevirtual 52, 3) := by decide +kernel
theorem dX2_bearByCalls_11 : decode cX2_bearByCalls 11 = .ok (.iconst 0, 1) := by decide +kernel
theorem dX2_bearByCalls_12 : decode cX2_bearByCalls 12 = .ok (.istore_n 1, 1) := by decide +kernel
theorem dX2_bearByCalls_13 : decode cX2_bearByCalls 13 = .ok (.iload_n 1, 1) := by decide +kernel
theorem dX2_bearByCalls_14 : decode cX2_bearByCalls 14 = .ok (.bipush 8, 2) := by decide +kernel
theorem dX2_bearByCalls_16 : decode cX2_bearByCalls 16 = .ok (.if_icmp .ge 41, 3) := by decide +kernel
theorem dX2_bearByCalls_19 : decode cX2_bearByCalls 19 = .ok (.aload_n 0, 1) := by decide +kernel
theorem dX2_bearByCalls_20 : decode cX2_bearByCalls 20 = .ok (.getfield 15, 3) := by decide +kernel
theorem dX2_bearByCalls_23 : decode cX2_bearByCalls 23 = .ok (.iload_n 1, 1) := by decide +kernel
theorem dX2_bearByCalls_24 : decode cX2_bearByCalls 24 = .ok (.dup2, 1) := by decide +kernel
theorem dX2_bearByCalls_25 : decode cX2_bearByCalls 25 = .ok (.laload, 1) := by decide +kernel
theorem dX2_bearByCalls_26 : decode cX2_bearByCalls 26 = .ok (.aload_n 0, 1) := by decide +kernel
theorem dX2_bearByCalls_27 : decode cX2_bearByCalls 27 = .ok (.getfield 28, 3) := by decide +kernel
theorem dX2_bearByCalls_30 : decode cX2_bearByCalls 30 = .ok (.getfield 56, 3) := by decide +kernel
theorem dX2_bearByCalls_33 : decode cX2_bearByCalls 33 = .ok (.iload_n 1, 1) := by decide +kernel
theorem dX2_bearByCalls_34 : decode cX2_bearByCalls 34 = .ok (.laload, 1) := by decide +kernel
theorem dX2_bearByCalls_35 : decode cX2_bearByCalls 35 = .ok (.lsub, 1) := by decide +kernel
theorem dX2_bearByCalls_36 : decode cX2_bearByCalls 36 = .ok (.lastore, 1) := by decide +kernel
theorem dX2_bearByCalls_37 : decode cX2_bearByCalls 37 = .ok (.aload_n 0, 1) := by decide +kernel
theorem dX2_bearByCalls_38 : decode cX2_bearByCalls 38 = .ok (.iconst 3, 1) := by decide +kernel
theorem dX2_bearByCalls_39 : decode cX2_bearByCalls 39 = .ok (.aload_n 0, 1) := by decide +kernel
theorem dX2_bearByCalls_40 : decode cX2_bearByCalls 40 = .ok (.getfield 28, 3) := by decide +kernel
theorem dX2_bearByCalls_43 : decode cX2_bearByCalls 43 = .ok (.getfield 56, 3) := by decide +kernel
theorem dX2_bearByCalls_46 : decode cX2_bearByCalls 46 = .ok (.iload_n 1, 1) := by decide +kernel
theorem dX2_bearByCalls_47 : decode cX2_bearByCalls 47 = .ok (.laload, 1) := by decide +kernel
theorem dX2_bearByCalls_48 : decode cX2_bearByCalls 48 = .ok (.invokevirtual 48, 3) := by decide +kernel
theorem dX2_bearByCalls_51 : decode cX2_bearByCalls 51 = .ok (.iinc 1 1, 3) := by decide +kernel
theorem dX2_bearByCalls_54 : decode cX2_bearByCalls 54 = .ok (.goto (-41), 3) := by decide +kernel
theorem dX2_bearByCalls_57 : decode cX2_bearByCalls 57 = .ok (.return_, 1) := by decide +kernel
theorem dX2_leaveTheRest_0 : decode cX2_leaveTheRest 0 = .ok (.aload_n 0, 1) := by decide +kernel
theorem dX2_leaveTheRest_1 : decode cX2_leaveTheRest 1 = .ok (.iconst 4, 1) := by decide +kernel
theorem dX2_leaveTheRest_2 : decode cX2_leaveTheRest 2 = .ok (.aload_n 0, 1) := by decide +kernel
theorem dX2_leaveTheRest_3 : decode cX2_leaveTheRest 3 = .ok (.getfield 36, 3) := by decide +kernel
theorem dX2_leaveTheRest_6 : decode cX2_leaveTheRest 6 = .ok (.invokevirtual 48, 3) := by decide +kernel
theorem dX2_leaveTheRest_9 : decode cX2_leaveTheRest 9 = .ok (.return_, 1) := by decide +kernel
theorem dX2_bear_0 : decode cX2_bear 0 = .ok (.aload_n 0, 1) := by decide +kernel
theorem dX2_bear_1 : decode cX2_bear 1 = .ok (.getfield 22, 3) := by decide +kernel
theorem dX2_bear_4 : decode cX2_bear 4 = .ok (.iload_n 1, 1) := by decide +kernel
theorem dX2_bear_5 : decode cX2_bear 5 = .ok (.dup2, 1) := by decide +kernel
theorem dX2_bear_6 : decode cX2_bear 6 = .ok (.laload, 1) := by decide +kernel
theorem dX2_bear_7 : decode cX2_bear 7 = .ok (.lload_n 2, 1) := by decide +kernel
theorem dX2_bear_8 : decode cX2_bear 8 = .ok (.ladd, 1) := by decide +kernel
theorem dX2_bear_9 : decode cX2_bear 9 = .ok (.lastore, 1) := by decide +kernel
theorem dX2_bear_10 : decode cX2_bear 10 = .ok (.aload_n 0, 1) := by decide +kernel
theorem dX2_bear_11 : decode cX2_bear 11 = .ok (.dup, 1) := by decide +kernel
theorem dX2_bear_12 : decode cX2_bear 12 = .ok (.getfield 36, 3) := by decide +kernel
theorem dX2_bear_15 : decode cX2_bear 15 = .ok (.lload_n 2, 1) := by decide +kernel
theorem dX2_bear_16 : decode cX2_bear 16 = .ok (.lsub, 1) := by decide +kernel
theorem dX2_bear_17 : decode cX2_bear 17 = .ok (.putfield 36, 3) := by decide +kernel
theorem dX2_bear_20 : decode cX2_bear 20 = .ok (.return_, 1) := by decide +kernel
theorem dX3_init_0 : decode cX3_init 0 = .ok (.aload_n 0, 1) := by decide +kernel
theorem dX3_init_1 : decode cX3_init 1 = .ok (.invokespecial 3, 3) := by decide +kernel
theorem dX3_init_4 : decode cX3_init 4 = .ok (.aload_n 0, 1) := by decide +kernel
theorem dX3_init_5 : decode cX3_init 5 = .ok (.bipush 8, 2) := by decide +kernel
theorem dX3_init_7 : decode cX3_init 7 = .ok (.newarray .long, 2) := by decide +kernel
theorem dX3_init_9 : decode cX3_init 9 = .ok (.putfield 9, 3) := by decide +kernel
theorem dX3_init_12 : decode cX3_init 12 = .ok (.aload_n 0, 1) := by decide +kernel
theorem dX3_init_13 : decode cX3_init 13 = .ok (.bipush 8, 2) := by decide +kernel
theorem dX3_init_15 : decode cX3_init 15 = .ok (.newarray .long, 2) := by decide +kernel
theorem dX3_init_17 : decode cX3_init 17 = .ok (.putfield 15, 3) := by decide +kernel
theorem dX3_init_20 : decode cX3_init 20 = .ok (.aload_n 0, 1) := by decide +kernel
theorem dX3_init_21 : decode cX3_init 21 = .ok (.bipush 8, 2) := by decide +kernel
theorem dX3_init_23 : decode cX3_init 23 = .ok (.newarray .long, 2) := by decide +kernel
theorem dX3_init_25 : decode cX3_init 25 = .ok (.putfield 18, 3) := by decide +kernel
theorem dX3_init_28 : decode cX3_init 28 = .ok (.return_, 1) := by decide +kernel
theorem dX3_split_0 : decode cX3_split 0 = .ok (.lconst 0, 1) := by decide +kernel
theorem dX3_split_1 : decode cX3_split 1 = .ok (.lstore_n 3, 1) := by decide +kernel
theorem dX3_split_2 : decode cX3_split 2 = .ok (.iconst 0, 1) := by decide +kernel
theorem dX3_split_3 : decode cX3_split 3 = .ok (.istore 5, 2) := by decide +kernel
theorem dX3_split_5 : decode cX3_split 5 = .ok (.iload 5, 2) := by decide +kernel
theorem dX3_split_7 : decode cX3_split 7 = .ok (.bipush 8, 2) := by decide +kernel
theorem dX3_split_9 : decode cX3_split 9 = .ok (.if_icmp .ge 19, 3) := by decide +kernel
theorem dX3_split_12 : decode cX3_split 12 = .ok (.lload_n 3, 1) := by decide +kernel
theorem dX3_split_13 : decode cX3_split 13 = .ok (.aload_n 0, 1) := by decide +kernel
theorem dX3_split_14 : decode cX3_split 14 = .ok (.getfield 9, 3) := by decide +kernel
theorem dX3_split_17 : decode cX3_split 17 = .ok (.iload 5, 2) := by decide +kernel
theorem dX3_split_19 : decode cX3_split 19 = .ok (.laload, 1) := by decide +kernel
theorem dX3_split_20 : decode cX3_split 20 = .ok (.ladd, 1) := by decide +kernel
theorem dX3_split_21 : decode cX3_split 21 = .ok (.lstore_n 3, 1) := by decide +kernel
theorem dX3_split_22 : decode cX3_split 22 = .ok (.iinc 5 1, 3) := by decide +kernel
theorem dX3_split_25 : decode cX3_split 25 = .ok (.goto (-20), 3) := by decide +kernel
theorem dX3_split_28 : decode cX3_split 28 = .ok (.lload_n 3, 1) := by decide +kernel
theorem dX3_split_29 : decode cX3_split 29 = .ok (.lconst 0, 1) := by decide +kernel
theorem dX3_split_30 : decode cX3_split 30 = .ok (.lcmp, 1) := by decide +kernel
theorem dX3_split_31 : decode cX3_split 31 = .ok (.ifCond .le 9, 3) := by decide +kernel
theorem dX3_split_34 : decode cX3_split 34 = .ok (.lload_n 3, 1) := by decide +kernel
theorem dX3_split_35 : decode cX3_split 35 = .ok (.lload_n 1, 1) := by decide +kernel
theorem dX3_split_36 : decode cX3_split 36 = .ok (.lcmp, 1) := by decide +kernel
theorem dX3_split_37 : decode cX3_split 37 = .ok (.ifCond .gt 10, 3) := by decide +kernel
theorem dX3_split_40 : decode cX3_split 40 = .ok (.aload_n 0, 1) := by decide +kernel
theorem dX3_split_41 : decode cX3_split 41 = .ok (.invokevirtual 21, 3) := by decide +kernel
theorem dX3_split_44 : decode cX3_split 44 = .ok (.goto 9, 3) := by decide +kernel
theorem dX3_split_47 : decode cX3_split 47 = .ok (.aload_n 0, 1) := by decide +kernel
theorem dX3_split_48 : decode cX3_split 48 = .ok (.lload_n 1, 1) := by decide +kernel
theorem dX3_split_49 : decode cX3_split 49 = .ok (.lload_n 3, 1) := by decide +kernel
theorem dX3_split_50 : decode cX3_split 50 = .ok (.invokevirtual 24, 3) := by decide +kernel
theorem dX3_split_53 : decode cX3_split 53 = .ok (.return_, 1) := by decide +kernel
theorem dX3_bearWhole_0 : decode cX3_bearWhole 0 = .ok (.iconst 0, 1) := by decide +kernel
theorem dX3_bearWhole_1 : decode cX3_bearWhole 1 = .ok (.istore_n 1, 1) := by decide +kernel
theorem dX3_bearWhole_2 : decode cX3_bearWhole 2 = .ok (.iload_n 1, 1) := by decide +kernel
theorem dX3_bearWhole_3 : decode cX3_bearWhole 3 = .ok (.bipush 8, 2) := by decide +kernel
theorem dX3_bearWhole_5 : decode cX3_bearWhole 5 = .ok (.if_icmp .ge 21, 3) := by decide +kernel
theorem dX3_bearWhole_8 : decode cX3_bearWhole 8 = .ok (.aload_n 0, 1) := by decide +kernel
theorem dX3_bearWhole_9 : decode cX3_bearWhole 9 = .ok (.getfield 15, 3) := by decide +kernel
theorem dX3_bearWhole_12 : decode cX3_bearWhole 12 = .ok (.iload_n 1, 1) := by decide +kernel
theorem dX3_bearWhole_13 : decode cX3_bearWhole 13 = .ok (.aload_n 0, 1) := by decide +kernel
theorem dX3_bearWhole_14 : decode cX3_bearWhole 14 = .ok (.getfield 9, 3) := by decide +kernel
theorem dX3_bearWhole_17 : decode cX3_bearWhole 17 = .ok (.iload_n 1, 1) := by decide +kernel
theorem dX3_bearWhole_18 : decode cX3_bearWhole 18 = .ok (.laload, 1) := by decide +kernel
theorem dX3_bearWhole_19 : decode cX3_bearWhole 19 = .ok (.lastore, 1) := by decide +kernel
theorem dX3_bearWhole_20 : decode cX3_bearWhole 20 = .ok (.iinc 1 1, 3) := by decide +kernel
theorem dX3_bearWhole_23 : decode cX3_bearWhole 23 = .ok (.goto (-21), 3) := by decide +kernel
theorem dX3_bearWhole_26 : decode cX3_bearWhole 26 = .ok (.return_, 1) := by decide +kernel
theorem dX3_bearRounded_0 : decode cX3_bearRounded 0 = .ok (.lload_n 1, 1) := by decide +kernel
theorem dX3_bearRounded_1 : decode cX3_bearRounded 1 = .ok (.lstore 5, 2) := by decide +kernel
theorem dX3_bearRounded_3 : decode cX3_bearRounded 3 = .ok (.iconst 0, 1) := by decide +kernel
theorem dX3_bearRounded_4 : decode cX3_bearRounded 4 = .ok (.istore 7, 2) := by decide +kernel
theorem dX3_bearRounded_6 : decode cX3_bearRounded 6 = .ok (.iload 7, 2) := by decide +kernel
theorem dX3_bearRounded_8 : decode cX3_bearRounded 8 = .ok (.bipush 8, 2) := by decide +kernel
theorem dX3_bearRounded_10 : decode cX3_bearRounded 10 = .ok (.if_icmp .ge 29, 3) := by decide +kernel
theorem dX3_bearRounded_13 : decode cX3_bearRounded 13 = .ok (.aload_n 0, 1) := by decide +kernel
theorem dX3_bearRounded_14 : decode cX3_bearRounded 14 = .ok (.iload 7, 2) := by decide +kernel
theorem dX3_bearRounded_16 : decode cX3_bearRounded 16 = .ok (.lload_n 1, 1) := by decide +kernel
theorem dX3_bearRounded_17 : decode cX3_bearRounded 17 = .ok (.lload_n 3, 1) := by decide +kernel
theorem dX3_bearRounded_18 : decode cX3_bearRounded 18 = .ok (.invokevirtual 28, 3) := by decide +kernel
theorem dX3_bearRounded_21 : decode cX3_bearRounded 21 = .ok (.lload 5, 2) := by decide +kernel
theorem dX3_bearRounded_23 : decode cX3_bearRounded 23 = .ok (.aload_n 0, 1) := by decide +kernel
theorem dX3_bearRounded_24 : decode cX3_bearRounded 24 = .ok (.getfield 15, 3) := by decide +kernel
theorem dX3_bearRounded_27 : decode cX3_bearRounded 27 = .ok (.iload 7, 2) := by decide +kernel
theorem dX3_bearRounded_29 : decode cX3_bearRounded 29 = .ok (.laload, 1) := by decide +kernel
theorem dX3_bearRounded_30 : decode cX3_bearRounded 30 = .ok (.lsub, 1) := by decide +kernel
theorem dX3_bearRounded_31 : decode cX3_bearRounded 31 = .ok (.lstore 5, 2) := by decide +kernel
theorem dX3_bearRounded_33 : decode cX3_bearRounded 33 = .ok (.iinc 7 1, 3) := by decide +kernel
theorem dX3_bearRounded_36 : decode cX3_bearRounded 36 = .ok (.goto (-30), 3) := by decide +kernel
theorem dX3_bearRounded_39 : decode cX3_bearRounded 39 = .ok (.iconst 0, 1) := by decide +kernel
theorem dX3_bearRounded_40 : decode cX3_bearRounded 40 = .ok (.istore 7, 2) := by decide +kernel
theorem dX3_bearRounded_42 : decode cX3_bearRounded 42 = .ok (.iload 7, 2) := by decide +kernel
theorem dX3_bearRounded_44 : decode cX3_bearRounded 44 = .ok (.bipush 8, 2) := by decide +kernel
theorem dX3_bearRounded_46 : decode cX3_bearRounded 46 = .ok (.if_icmp .ge 22, 3) := by decide +kernel
theorem dX3_bearRounded_49 : decode cX3_bearRounded 49 = .ok (.iload 7, 2) := by decide +kernel
theorem dX3_bearRounded_51 : decode cX3_bearRounded 51 = .ok (.i2l, 1) := by decide +kernel
theorem dX3_bearRounded_52 : decode cX3_bearRounded 52 = .ok (.lload 5, 2) := by decide +kernel
theorem dX3_bearRounded_54 : decode cX3_bearRounded 54 = .ok (.lcmp, 1) := by decide +kernel
theorem dX3_bearRounded_55 : decode cX3_bearRounded 55 = .ok (.ifCond .ge 13, 3) := by decide +kernel
theorem dX3_bearRounded_58 : decode cX3_bearRounded 58 = .ok (.aload_n 0, 1) := by decide +kernel
theorem dX3_bearRounded_59 : decode cX3_bearRounded 59 = .ok (.invokevirtual 32, 3) := by decide +kernel
theorem dX3_bearRounded_62 : decode cX3_bearRounded 62 = .ok (.iinc 7 1, 3) := by decide +kernel
theorem dX3_bearRounded_65 : decode cX3_bearRounded 65 = .ok (.goto (-23), 3) := by decide +kernel
theorem dX3_bearRounded_68 : decode cX3_bearRounded 68 = .ok (.return_, 1) := by decide +kernel
theorem dX3_roundDown_0 : decode cX3_roundDown 0 = .ok (.lconst 0, 1) := by decide +kernel
theorem dX3_roundDown_1 : decode cX3_roundDown 1 = .ok (.lstore 6, 2) := by decide +kernel
theorem dX3_roundDown_3 : decode cX3_roundDown 3 = .ok (.lconst 0, 1) := by decide +kernel
theorem dX3_roundDown_4 : decode cX3_roundDown 4 = .ok (.lstore 8, 2) := by decide +kernel
theorem dX3_roundDown_6 : decode cX3_roundDown 6 = .ok (.bipush 32, 2) := by decide +kernel
theorem dX3_roundDown_8 : decode cX3_roundDown 8 = .ok (.istore 10, 2) := by decide +kernel
theorem dX3_roundDown_10 : decode cX3_roundDown 10 = .ok (.iload 10, 2) := by decide +kernel
theorem dX3_roundDown_12 : decode cX3_roundDown 12 = .ok (.ifCond .lt 56, 3) := by decide +kernel
theorem dX3_roundDown_15 : decode cX3_roundDown 15 = .ok (.aload_n 0, 1) := by decide +kernel
theorem dX3_roundDown_16 : decode cX3_roundDown 16 = .ok (.getfield 9, 3) := by decide +kernel
theorem dX3_roundDown_19 : decode cX3_roundDown 19 = .ok (.iload_n 1, 1) := by decide +kernel
theorem dX3_roundDown_20 : decode cX3_roundDown 20 = .ok (.laload, 1) := by decide +kernel
theorem dX3_roundDown_21 : decode cX3_roundDown 21 = .ok (.iload 10, 2) := by decide +kernel
theorem dX3_roundDown_23 : decode cX3_roundDown 23 = .ok (.lshr, 1) := by decide +kernel
theorem dX3_roundDown_24 : decode cX3_roundDown 24 = .ok (.ldc2_w 35, 3) := by decide +kernel
theorem dX3_roundDown_27 : decode cX3_roundDown 27 = .ok (.land, 1) := by decide +kernel
theorem dX3_roundDown_28 : decode cX3_roundDown 28 = .ok (.lstore 11, 2) := by decide +kernel
theorem dX3_roundDown_30 : decode cX3_roundDown 30 = .ok (.lload 8, 2) := by decide +kernel
theorem dX3_roundDown_32 : decode cX3_roundDown 32 = .ok (.bipush 16, 2) := by decide +kernel
theorem dX3_roundDown_34 : decode cX3_roundDown 34 = .ok (.lshl, 1) := by decide +kernel
theorem dX3_roundDown_35 : decode cX3_roundDown 35 = .ok (.lload_n 2, 1) := by decide +kernel
theorem dX3_roundDown_36 : decode cX3_roundDown 36 = .ok (.lload 11, 2) := by decide +kernel
theorem dX3_roundDown_38 : decode cX3_roundDown 38 = .ok (.lmul, 1) := by decide +kernel
theorem dX3_roundDown_39 : decode cX3_roundDown 39 = .ok (.ladd, 1) := by decide +kernel
theorem dX3_roundDown_40 : decode cX3_roundDown 40 = .ok (.lstore 13, 2) := by decide +kernel
theorem dX3_roundDown_42 : decode cX3_roundDown 42 = .ok (.lload 6, 2) := by decide +kernel
theorem dX3_roundDown_44 : decode cX3_roundDown 44 = .ok (.bipush 16, 2) := by decide +kernel
theorem dX3_roundDown_46 : decode cX3_roundDown 46 = .ok (.lshl, 1) := by decide +kernel
theorem dX3_roundDown_47 : decode cX3_roundDown 47 = .ok (.lload 13, 2) := by decide +kernel
theorem dX3_roundDown_49 : decode cX3_roundDown 49 = .ok (.lload 4, 2) := by decide +kernel
theorem dX3_roundDown_51 : decode cX3_roundDown 51 = .ok (.ldiv, 1) := by decide +kernel
theorem dX3_roundDown_52 : decode cX3_roundDown 52 = .ok (.ladd, 1) := by decide +kernel
theorem dX3_roundDown_53 : decode cX3_roundDown 53 = .ok (.lstore 6, 2) := by decide +kernel
theorem dX3_roundDown_55 : decode cX3_roundDown 55 = .ok (.lload 13, 2) := by decide +kernel
theorem dX3_roundDown_57 : decode cX3_roundDown 57 = .ok (.lload 4, 2) := by decide +kernel
theorem dX3_roundDown_59 : decode cX3_roundDown 59 = .ok (.lrem, 1) := by decide +kernel
theorem dX3_roundDown_60 : decode cX3_roundDown 60 = .ok (.lstore 8, 2) := by decide +kernel
theorem dX3_roundDown_62 : decode cX3_roundDown 62 = .ok (.iinc 10 (-16), 3) := by decide +kernel
theorem dX3_roundDown_65 : decode cX3_roundDown 65 = .ok (.goto (-55), 3) := by decide +kernel
theorem dX3_roundDown_68 : decode cX3_roundDown 68 = .ok (.aload_n 0, 1) := by decide +kernel
theorem dX3_roundDown_69 : decode cX3_roundDown 69 = .ok (.getfield 15, 3) := by decide +kernel
theorem dX3_roundDown_72 : decode cX3_roundDown 72 = .ok (.iload_n 1, 1) := by decide +kernel
theorem dX3_roundDown_73 : decode cX3_roundDown 73 = .ok (.lload 6, 2) := by decide +kernel
theorem dX3_roundDown_75 : decode cX3_roundDown 75 = .ok (.lastore, 1) := by decide +kernel
theorem dX3_roundDown_76 : decode cX3_roundDown 76 = .ok (.aload_n 0, 1) := by decide +kernel
theorem dX3_roundDown_77 : decode cX3_roundDown 77 = .ok (.getfield 18, 3) := by decide +kernel
theorem dX3_roundDown_80 : decode cX3_roundDown 80 = .ok (.iload_n 1, 1) := by decide +kernel
theorem dX3_roundDown_81 : decode cX3_roundDown 81 = .ok (.lload 8, 2) := by decide +kernel
theorem dX3_roundDown_83 : decode cX3_roundDown 83 = .ok (.lastore, 1) := by decide +kernel
theorem dX3_roundDown_84 : decode cX3_roundDown 84 = .ok (.return_, 1) := by decide +kernel
theorem dX3_giveOneMore_0 : decode cX3_giveOneMore 0 = .ok (.iconst 0, 1) := by decide +kernel
theorem dX3_giveOneMore_1 : decode cX3_giveOneMore 1 = .ok (.istore_n 1, 1) := by decide +kernel
theorem dX3_giveOneMore_2 : decode cX3_giveOneMore 2 = .ok (.iconst 1, 1) := by decide +kernel
theorem dX3_giveOneMore_3 : decode cX3_giveOneMore 3 = .ok (.istore_n 2, 1) := by decide +kernel
theorem dX3_giveOneMore_4 : decode cX3_giveOneMore 4 = .ok (.iload_n 2, 1) := by decide +kernel
theorem dX3_giveOneMore_5 : decode cX3_giveOneMore 5 = .ok (.bipush 8, 2) := by decide +kernel
theorem dX3_giveOneMore_7 : decode cX3_giveOneMore 7 = .ok (.if_icmp .ge 27, 3) := by decide +kernel
theorem dX3_giveOneMore_10 : decode cX3_giveOneMore 10 = .ok (.aload_n 0, 1) := by decide +kernel
theorem dX3_giveOneMore_11 : decode cX3_giveOneMore 11 = .ok (.getfield 18, 3) := by decide +kernel
theorem dX3_giveOneMore_14 : decode cX3_giveOneMore 14 = .ok (.iload_n 2, 1) := by decide +kernel
theorem dX3_giveOneMore_15 : decode cX3_giveOneMore 15 = .ok (.laload, 1) := by decide +kernel
theorem dX3_giveOneMore_16 : decode cX3_giveOneMore 16 = .ok (.aload_n 0, 1) := by decide +kernel
theorem dX3_giveOneMore_17 : decode cX3_giveOneMore 17 = .ok (.getfield 18, 3) := by decide +kernel
theorem dX3_giveOneMore_20 : decode cX3_giveOneMore 20 = .ok (.iload_n 1, 1) := by decide +kernel
theorem dX3_giveOneMore_21 : decode cX3_giveOneMore 21 = .ok (.laload, 1) := by decide +kernel
theorem dX3_giveOneMore_22 : decode cX3_giveOneMore 22 = .ok (.lcmp, 1) := by decide +kernel
theorem dX3_giveOneMore_23 : decode cX3_giveOneMore 23 = .ok (.ifCond .le 5, 3) := by decide +kernel
theorem dX3_giveOneMore_26 : decode cX3_giveOneMore 26 = .ok (.iload_n 2, 1) := by decide +kernel
theorem dX3_giveOneMore_27 : decode cX3_giveOneMore 27 = .ok (.istore_n 1, 1) := by decide +kernel
theorem dX3_giveOneMore_28 : decode cX3_giveOneMore 28 = .ok (.iinc 2 1, 3) := by decide +kernel
theorem dX3_giveOneMore_31 : decode cX3_giveOneMore 31 = .ok (.goto (-27), 3) := by decide +kernel
theorem dX3_giveOneMore_34 : decode cX3_giveOneMore 34 = .ok (.aload_n 0, 1) := by decide +kernel
theorem dX3_giveOneMore_35 : decode cX3_giveOneMore 35 = .ok (.getfield 15, 3) := by decide +kernel
theorem dX3_giveOneMore_38 : decode cX3_giveOneMore 38 = .ok (.iload_n 1, 1) := by decide +kernel
theorem dX3_giveOneMore_39 : decode cX3_giveOneMore 39 = .ok (.dup2, 1) := by decide +kernel
theorem dX3_giveOneMore_40 : decode cX3_giveOneMore 40 = .ok (.laload, 1) := by decide +kernel
theorem dX3_giveOneMore_41 : decode cX3_giveOneMore 41 = .ok (.lconst 1, 1) := by decide +kernel
theorem dX3_giveOneMore_42 : decode cX3_giveOneMore 42 = .ok (.ladd, 1) := by decide +kernel
theorem dX3_giveOneMore_43 : decode cX3_giveOneMore 43 = .ok (.lastore, 1) := by decide +kernel
theorem dX3_giveOneMore_44 : decode cX3_giveOneMore 44 = .ok (.aload_n 0, 1) := by decide +kernel
theorem dX3_giveOneMore_45 : decode cX3_giveOneMore 45 = .ok (.getfield 18, 3) := by decide +kernel
theorem dX3_giveOneMore_48 : decode cX3_giveOneMore 48 = .ok (.iload_n 1, 1) := by decide +kernel
theorem dX3_giveOneMore_49 : decode cX3_giveOneMore 49 = .ok (.ldc2_w 37, 3) := by decide +kernel
theorem dX3_giveOneMore_52 : decode cX3_giveOneMore 52 = .ok (.lastore, 1) := by decide +kernel
theorem dX3_giveOneMore_53 : decode cX3_giveOneMore 53 = .ok (.return_, 1) := by decide +kernel
theorem dJ9_abs_0f7a4_0 : decode cJ9_abs_0f7a4 0 = .ok (.iload_n 0, 1) := by decide +kernel
theorem dJ9_abs_0f7a4_1 : decode cJ9_abs_0f7a4 1 = .ok (.ifCond .ge 8, 3) := by decide +kernel
theorem dJ9_abs_0f7a4_4 : decode cJ9_abs_0f7a4 4 = .ok (.iload_n 0, 1) := by decide +kernel
theorem dJ9_abs_0f7a4_5 : decode cJ9_abs_0f7a4 5 = .ok (.ineg, 1) := by decide +kernel
theorem dJ9_abs_0f7a4_6 : decode cJ9_abs_0f7a4 6 = .ok (.goto 4, 3) := by decide +kernel
theorem dJ9_abs_0f7a4_9 : decode cJ9_abs_0f7a4 9 = .ok (.iload_n 0, 1) := by decide +kernel
theorem dJ9_abs_0f7a4_10 : decode cJ9_abs_0f7a4 10 = .ok (.ireturn, 1) := by decide +kernel
theorem dJ9_max_7cf53_0 : decode cJ9_max_7cf53 0 = .ok (.iload_n 0, 1) := by decide +kernel
theorem dJ9_max_7cf53_1 : decode cJ9_max_7cf53 1 = .ok (.iload_n 1, 1) := by decide +kernel
theorem dJ9_max_7cf53_2 : decode cJ9_max_7cf53 2 = .ok (.if_icmp .lt 7, 3) := by decide +kernel
theorem dJ9_max_7cf53_5 : decode cJ9_max_7cf53 5 = .ok (.iload_n 0, 1) := by decide +kernel
theorem dJ9_max_7cf53_6 : decode cJ9_max_7cf53 6 = .ok (.goto 4, 3) := by decide +kernel
theorem dJ9_max_7cf53_9 : decode cJ9_max_7cf53 9 = .ok (.iload_n 1, 1) := by decide +kernel
theorem dJ9_max_7cf53_10 : decode cJ9_max_7cf53 10 = .ok (.ireturn, 1) := by decide +kernel
theorem dJ9_max_f86c9_0 : decode cJ9_max_f86c9 0 = .ok (.lload_n 0, 1) := by decide +kernel
theorem dJ9_max_f86c9_1 : decode cJ9_max_f86c9 1 = .ok (.lload_n 2, 1) := by decide +kernel
theorem dJ9_max_f86c9_2 : decode cJ9_max_f86c9 2 = .ok (.lcmp, 1) := by decide +kernel
theorem dJ9_max_f86c9_3 : decode cJ9_max_f86c9 3 = .ok (.ifCond .lt 7, 3) := by decide +kernel
theorem dJ9_max_f86c9_6 : decode cJ9_max_f86c9 6 = .ok (.lload_n 0, 1) := by decide +kernel
theorem dJ9_max_f86c9_7 : decode cJ9_max_f86c9 7 = .ok (.goto 4, 3) := by decide +kernel
theorem dJ9_max_f86c9_10 : decode cJ9_max_f86c9 10 = .ok (.lload_n 2, 1) := by decide +kernel
theorem dJ9_max_f86c9_11 : decode cJ9_max_f86c9 11 = .ok (.lreturn, 1) := by decide +kernel
theorem dJ9_min_f86c9_0 : decode cJ9_min_f86c9 0 = .ok (.lload_n 0, 1) := by decide +kernel
theorem dJ9_min_f86c9_1 : decode cJ9_min_f86c9 1 = .ok (.lload_n 2, 1) := by decide +kernel
theorem dJ9_min_f86c9_2 : decode cJ9_min_f86c9 2 = .ok (.lcmp, 1) := by decide +kernel
theorem dJ9_min_f86c9_3 : decode cJ9_min_f86c9 3 = .ok (.ifCond .gt 7, 3) := by decide +kernel
theorem dJ9_min_f86c9_6 : decode cJ9_min_f86c9 6 = .ok (.lload_n 0, 1) := by decide +kernel
theorem dJ9_min_f86c9_7 : decode cJ9_min_f86c9 7 = .ok (.goto 4, 3) := by decide +kernel
theorem dJ9_min_f86c9_10 : decode cJ9_min_f86c9 10 = .ok (.lload_n 2, 1) := by decide +kernel
theorem dJ9_min_f86c9_11 : decode cJ9_min_f86c9 11 = .ok (.lreturn, 1) := by decide +kernel
