/-! what each call needs of its callee, the tools of the walks, the JDK's Math -/
theorem cw_X2_startLayers : Cw_ yX2_startLayers (.code yX2_startLayers cX2_startLayers 3 none) 1 := ⟨nw_267, nw_2, by decide +kernel, by decide +kernel, by decide +kernel⟩
theorem cw_X2_bearByOwnContribution : Cw_ yX2_bearByOwnContribution (.code yX2_bearByOwnContribution cX2_bearByOwnContribution 4 none) 1 := ⟨nw_272, nw_2, by decide +kernel, by decide +kernel, by decide +kernel⟩
theorem cw_X2_bearByCapital : Cw_ yX2_bearByCapital (.code yX2_bearByCapital cX2_bearByCapital 3 none) 0 := ⟨nw_282, nw_2, by decide +kernel, by decide +kernel, by decide +kernel⟩
theorem cw_X2_bearByContributions : Cw_ yX2_bearByContributions (.code yX2_bearByContributions cX2_bearByContributions 2 none) 0 := ⟨nw_289, nw_2, by decide +kernel, by decide +kernel, by decide +kernel⟩
theorem cw_X2_bearByCalls : Cw_ yX2_bearByCalls (.code yX2_bearByCalls cX2_bearByCalls 2 none) 0 := ⟨nw_315, nw_2, by decide +kernel, by decide +kernel, by decide +kernel⟩
theorem cw_X2_leaveTheRest : Cw_ yX2_leaveTheRest (.code yX2_leaveTheRest cX2_leaveTheRest 1 none) 0 := ⟨nw_319, nw_2, by decide +kernel, by decide +kernel, by decide +kernel⟩
theorem cw_X2_bear : Cw_ yX2_bear (.code yX2_bear cX2_bear 4 none) 2 := ⟨nw_278, nw_2, by decide +kernel, by decide +kernel, by decide +kernel⟩
theorem cw_X3_split : Cw_ yX3_split (.code yX3_split cX3_split 6 none) 1 := ⟨nw_293, nw_3, by decide +kernel, by decide +kernel, by decide +kernel⟩
theorem cw_X3_bearWhole : Cw_ yX3_bearWhole (.code yX3_bearWhole cX3_bearWhole 2 none) 0 := ⟨nw_296, nw_3, by decide +kernel, by decide +kernel, by decide +kernel⟩
theorem cw_X3_bearRounded : Cw_ yX3_bearRounded (.code yX3_bearRounded cX3_bearRounded 8 none) 2 := ⟨nw_299, nw_3, by decide +kernel, by decide +kernel, by decide +kernel⟩
theorem cw_X3_roundDown : Cw_ yX3_roundDown (.code yX3_roundDown cX3_roundDown 15 none) 3 := ⟨nw_302, nw_3, by decide +kernel, by decide +kernel, by decide +kernel⟩
theorem cw_X3_giveOneMore : Cw_ yX3_giveOneMore (.code yX3_giveOneMore cX3_giveOneMore 3 none) 0 := ⟨nw_306, nw_3, by decide +kernel, by decide +kernel, by decide +kernel⟩
theorem cw_X4_member : Cw_ yX4_member (.code yX4_member cX4_member 3 (some .int)) 1 := ⟨nw_117, nw_1, by decide +kernel, by decide +kernel, by decide +kernel⟩
theorem cw_X4_instrument : Cw_ yX4_instrument (.code yX4_instrument cX4_instrument 5 (some .int)) 3 := ⟨nw_147, nw_1, by decide +kernel, by decide +kernel, by decide +kernel⟩
theorem cw_X4_capital : Cw_ yX4_capital (.code yX4_capital cX4_capital 3 (some .long)) 1 := ⟨nw_155, nw_1, by decide +kernel, by decide +kernel, by decide +kernel⟩
theorem cw_X4_move : Cw_ yX4_move (.code yX4_move cX4_move 4 none) 3 := ⟨nw_168, nw_1, by decide +kernel, by decide +kernel, by decide +kernel⟩
theorem cw_X4_bid : Cw_ yX4_bid (.code yX4_bid cX4_bid 4 none) 3 := ⟨nw_180, nw_1, by decide +kernel, by decide +kernel, by decide +kernel⟩
theorem cw_X4_deposit : Cw_ yX4_deposit (.code yX4_deposit cX4_deposit 5 (some .long)) 2 := ⟨nw_191, nw_1, by decide +kernel, by decide +kernel, by decide +kernel⟩
theorem cw_X4_withdraw : Cw_ yX4_withdraw (.code yX4_withdraw cX4_withdraw 5 (some .long)) 2 := ⟨nw_206, nw_1, by decide +kernel, by decide +kernel, by decide +kernel⟩
theorem cw_X4_trade : Cw_ yX4_trade (.code yX4_trade cX4_trade 10 (some .int)) 5 := ⟨nw_213, nw_1, by decide +kernel, by decide +kernel, by decide +kernel⟩
theorem cw_X4_mark : Cw_ yX4_mark (.code yX4_mark cX4_mark 6 (some .int)) 2 := ⟨nw_224, nw_1, by decide +kernel, by decide +kernel, by decide +kernel⟩
theorem cw_X4_margin : Cw_ yX4_margin (.code yX4_margin cX4_margin 2 (some .long)) 1 := ⟨nw_234, nw_1, by decide +kernel, by decide +kernel, by decide +kernel⟩
theorem cw_X4_called : Cw_ yX4_called (.code yX4_called cX4_called 2 (some .long)) 1 := ⟨nw_241, nw_1, by decide +kernel, by decide +kernel, by decide +kernel⟩
theorem cw_X4_declare : Cw_ yX4_declare (.code yX4_declare cX4_declare 3 (some .int)) 0 := ⟨nw_91, nw_1, by decide +kernel, by decide +kernel, by decide +kernel⟩
theorem cw_X4_closeOut : Cw_ yX4_closeOut (.code yX4_closeOut cX4_closeOut 2 (some .long)) 1 := ⟨nw_248, nw_1, by decide +kernel, by decide +kernel, by decide +kernel⟩
theorem cw_X4_told : Cw_ yX4_told (.code yX4_told cX4_told 3 (some .long)) 2 := ⟨nw_329, nw_1, by decide +kernel, by decide +kernel, by decide +kernel⟩
theorem cw_X4_position : Cw_ yX4_position (.code yX4_position cX4_position 3 (some .int)) 2 := ⟨nw_337, nw_1, by decide +kernel, by decide +kernel, by decide +kernel⟩
theorem cw_X4_bore : Cw_ yX4_bore (.code yX4_bore cX4_bore 2 (some .long)) 1 := ⟨nw_344, nw_1, by decide +kernel, by decide +kernel, by decide +kernel⟩
theorem cw_X4_all : Cw_ yX4_all (.code yX4_all cX4_all 2 (some .long)) 1 := ⟨nw_352, nw_1, by decide +kernel, by decide +kernel, by decide +kernel⟩
theorem cw_X4_need : Cw_ yX4_need (.code yX4_need cX4_need 1 none) 1 := ⟨nw_124, nw_1, by decide +kernel, by decide +kernel, by decide +kernel⟩
theorem cw_X4_needStanding : Cw_ yX4_needStanding (.code yX4_needStanding cX4_needStanding 2 none) 2 := ⟨nw_194, nw_1, by decide +kernel, by decide +kernel, by decide +kernel⟩
theorem cw_X4_within : Cw_ yX4_within (.code yX4_within cX4_within 6 (some .boolean)) 3 := ⟨nw_121, nw_1, by decide +kernel, by decide +kernel, by decide +kernel⟩
theorem cw_X4_isTooMuch : Cw_ yX4_isTooMuch (.code yX4_isTooMuch cX4_isTooMuch 2 (some .boolean)) 1 := ⟨nw_158, nw_1, by decide +kernel, by decide +kernel, by decide +kernel⟩
theorem cw_X4_isTooMany : Cw_ yX4_isTooMany (.code yX4_isTooMany cX4_isTooMany 1 (some .boolean)) 1 := ⟨nw_217, nw_1, by decide +kernel, by decide +kernel, by decide +kernel⟩
theorem cw_X4_isMember : Cw_ yX4_isMember (.code yX4_isMember cX4_isMember 2 (some .boolean)) 1 := ⟨nw_183, nw_1, by decide +kernel, by decide +kernel, by decide +kernel⟩
theorem cw_X4_isInstrument : Cw_ yX4_isInstrument (.code yX4_isInstrument cX4_isInstrument 2 (some .boolean)) 1 := ⟨nw_172, nw_1, by decide +kernel, by decide +kernel, by decide +kernel⟩
theorem cw_X4_countLiveBelowZero : Cw_ yX4_countLiveBelowZero (.code yX4_countLiveBelowZero cX4_countLiveBelowZero 3 (some .int)) 0 := ⟨nw_227, nw_1, by decide +kernel, by decide +kernel, by decide +kernel⟩
theorem cw_X4_marginOf : Cw_ yX4_marginOf (.code yX4_marginOf cX4_marginOf 5 (some .long)) 1 := ⟨nw_97, nw_1, by decide +kernel, by decide +kernel, by decide +kernel⟩
theorem cw_X4_lossUnder : Cw_ yX4_lossUnder (.code yX4_lossUnder cX4_lossUnder 6 (some .long)) 2 := ⟨nw_100, nw_1, by decide +kernel, by decide +kernel, by decide +kernel⟩
theorem cw_X4_extraOf : Cw_ yX4_extraOf (.code yX4_extraOf cX4_extraOf 6 (some .long)) 1 := ⟨nw_106, nw_1, by decide +kernel, by decide +kernel, by decide +kernel⟩
theorem cw_X4_shortfallOf : Cw_ yX4_shortfallOf (.code yX4_shortfallOf cX4_shortfallOf 2 (some .long)) 1 := ⟨nw_94, nw_1, by decide +kernel, by decide +kernel, by decide +kernel⟩
theorem cw_X4_sumCash : Cw_ yX4_sumCash (.code yX4_sumCash cX4_sumCash 4 (some .long)) 0 := ⟨nw_356, nw_1, by decide +kernel, by decide +kernel, by decide +kernel⟩
theorem cw_X4_sumContributions : Cw_ yX4_sumContributions (.code yX4_sumContributions cX4_sumContributions 4 (some .long)) 0 := ⟨nw_359, nw_1, by decide +kernel, by decide +kernel, by decide +kernel⟩
theorem cw_X4_sumUnitsOpen : Cw_ yX4_sumUnitsOpen (.code yX4_sumUnitsOpen cX4_sumUnitsOpen 5 (some .long)) 0 := ⟨nw_362, nw_1, by decide +kernel, by decide +kernel, by decide +kernel⟩
theorem cw_X4_startPlan : Cw_ yX4_startPlan (.code yX4_startPlan cX4_startPlan 2 none) 0 := ⟨nw_251, nw_1, by decide +kernel, by decide +kernel, by decide +kernel⟩
theorem cw_X4_planTakers : Cw_ yX4_planTakers (.code yX4_planTakers cX4_planTakers 4 (some .boolean)) 1 := ⟨nw_254, nw_1, by decide +kernel, by decide +kernel, by decide +kernel⟩
theorem cw_X4_leastBidder : Cw_ yX4_leastBidder (.code yX4_leastBidder cX4_leastBidder 4 (some .int)) 1 := ⟨nw_257, nw_1, by decide +kernel, by decide +kernel, by decide +kernel⟩
theorem cw_X4_planTaking : Cw_ yX4_planTaking (.code yX4_planTaking cX4_planTaking 7 (some .boolean)) 3 := ⟨nw_260, nw_1, by decide +kernel, by decide +kernel, by decide +kernel⟩
theorem cw_X4_planLayers : Cw_ yX4_planLayers (.code yX4_planLayers cX4_planLayers 2 none) 1 := ⟨nw_263, nw_1, by decide +kernel, by decide +kernel, by decide +kernel⟩
theorem cw_X4_weighContributions : Cw_ yX4_weighContributions (.code yX4_weighContributions cX4_weighContributions 2 none) 0 := ⟨nw_285, nw_1, by decide +kernel, by decide +kernel, by decide +kernel⟩
theorem cw_X4_weighCalls : Cw_ yX4_weighCalls (.code yX4_weighCalls cX4_weighCalls 4 none) 0 := ⟨nw_310, nw_1, by decide +kernel, by decide +kernel, by decide +kernel⟩
theorem cw_X4_carryOutPlan : Cw_ yX4_carryOutPlan (.code yX4_carryOutPlan cX4_carryOutPlan 3 none) 1 := ⟨nw_322, nw_1, by decide +kernel, by decide +kernel, by decide +kernel⟩
theorem cw_X5_thrown : Cw_ yX5_thrown (.code yX5_thrown cX5_thrown 1 (some .int)) 0 := ⟨nw_399, nw_6, by decide +kernel, by decide +kernel, by decide +kernel⟩
theorem cw_X5_within : Cw_ yX5_within (.code yX5_within cX5_within 6 (some .boolean)) 3 := ⟨nw_407, nw_6, by decide +kernel, by decide +kernel, by decide +kernel⟩
theorem cw_X5_isMember : Cw_ yX5_isMember (.code yX5_isMember cX5_isMember 2 (some .boolean)) 1 := ⟨nw_437, nw_6, by decide +kernel, by decide +kernel, by decide +kernel⟩
theorem cw_X5_isInstrument : Cw_ yX5_isInstrument (.code yX5_isInstrument cX5_isInstrument 2 (some .boolean)) 1 := ⟨nw_429, nw_6, by decide +kernel, by decide +kernel, by decide +kernel⟩
theorem cw_X5_isFar : Cw_ yX5_isFar (.code yX5_isFar cX5_isFar 2 (some .boolean)) 1 := ⟨nw_419, nw_6, by decide +kernel, by decide +kernel, by decide +kernel⟩
theorem cw_X5_member : Cw_ yX5_member (.code yX5_member cX5_member 3 (some .int)) 1 := ⟨nw_403, nw_6, by decide +kernel, by decide +kernel, by decide +kernel⟩
theorem cw_X5_instrument : Cw_ yX5_instrument (.code yX5_instrument cX5_instrument 4 (some .int)) 3 := ⟨nw_411, nw_6, by decide +kernel, by decide +kernel, by decide +kernel⟩
theorem cw_X5_capital : Cw_ yX5_capital (.code yX5_capital cX5_capital 3 (some .long)) 1 := ⟨nw_416, nw_6, by decide +kernel, by decide +kernel, by decide +kernel⟩
theorem cw_X5_move : Cw_ yX5_move (.code yX5_move cX5_move 4 none) 3 := ⟨nw_426, nw_6, by decide +kernel, by decide +kernel, by decide +kernel⟩
theorem cw_X5_bid : Cw_ yX5_bid (.code yX5_bid cX5_bid 4 none) 3 := ⟨nw_434, nw_6, by decide +kernel, by decide +kernel, by decide +kernel⟩
theorem cw_X5_deposit : Cw_ yX5_deposit (.code yX5_deposit cX5_deposit 4 (some .long)) 2 := ⟨nw_441, nw_6, by decide +kernel, by decide +kernel, by decide +kernel⟩
theorem cw_X5_marginOf : Cw_ yX5_marginOf (.code yX5_marginOf cX5_marginOf 8 (some .long)) 1 := ⟨nw_448, nw_6, by decide +kernel, by decide +kernel, by decide +kernel⟩
theorem cw_X5_withdraw : Cw_ yX5_withdraw (.code yX5_withdraw cX5_withdraw 4 (some .long)) 2 := ⟨nw_445, nw_6, by decide +kernel, by decide +kernel, by decide +kernel⟩
theorem cw_X5_trade : Cw_ yX5_trade (.code yX5_trade cX5_trade 11 (some .int)) 5 := ⟨nw_452, nw_6, by decide +kernel, by decide +kernel, by decide +kernel⟩
theorem cw_X5_mark : Cw_ yX5_mark (.code yX5_mark cX5_mark 7 (some .int)) 2 := ⟨nw_459, nw_6, by decide +kernel, by decide +kernel, by decide +kernel⟩
theorem cw_X5_margin : Cw_ yX5_margin (.code yX5_margin cX5_margin 2 (some .long)) 1 := ⟨nw_463, nw_6, by decide +kernel, by decide +kernel, by decide +kernel⟩
theorem cw_X5_callOf : Cw_ yX5_callOf (.code yX5_callOf cX5_callOf 4 (some .long)) 1 := ⟨nw_470, nw_6, by decide +kernel, by decide +kernel, by decide +kernel⟩
theorem cw_X5_called : Cw_ yX5_called (.code yX5_called cX5_called 2 (some .long)) 1 := ⟨nw_467, nw_6, by decide +kernel, by decide +kernel, by decide +kernel⟩
theorem cw_X5_declare : Cw_ yX5_declare (.code yX5_declare cX5_declare 3 (some .int)) 0 := ⟨nw_474, nw_6, by decide +kernel, by decide +kernel, by decide +kernel⟩
theorem cw_X5_change : Cw_ yX5_change (.code yX5_change cX5_change 4 none) 2 := ⟨nw_487, nw_6, by decide +kernel, by decide +kernel, by decide +kernel⟩
theorem cw_X5_bestBid : Cw_ yX5_bestBid (.code yX5_bestBid cX5_bestBid 4 (some .int)) 1 := ⟨nw_484, nw_6, by decide +kernel, by decide +kernel, by decide +kernel⟩
theorem cw_X5_give : Cw_ yX5_give (.code yX5_give cX5_give 8 none) 2 := ⟨nw_481, nw_6, by decide +kernel, by decide +kernel, by decide +kernel⟩
theorem cw_X5_divide : Cw_ yX5_divide (.code yX5_divide cX5_divide 11 none) 3 := ⟨nw_499, nw_6, by decide +kernel, by decide +kernel, by decide +kernel⟩
theorem cw_X5_share : Cw_ yX5_share (.code yX5_share cX5_share 9 (some .long)) 1 := ⟨nw_496, nw_6, by decide +kernel, by decide +kernel, by decide +kernel⟩
theorem cw_X5_bear : Cw_ yX5_bear (.code yX5_bear cX5_bear 7 (some .long)) 1 := ⟨nw_493, nw_6, by decide +kernel, by decide +kernel, by decide +kernel⟩
theorem cw_X5_closeOut : Cw_ yX5_closeOut (.code yX5_closeOut cX5_closeOut 5 (some .long)) 1 := ⟨nw_478, nw_6, by decide +kernel, by decide +kernel, by decide +kernel⟩
theorem cw_X5_wouldLose : Cw_ yX5_wouldLose (.code yX5_wouldLose cX5_wouldLose 7 (some .long)) 1 := ⟨nw_490, nw_6, by decide +kernel, by decide +kernel, by decide +kernel⟩
theorem cw_X5_told : Cw_ yX5_told (.code yX5_told cX5_told 3 (some .long)) 2 := ⟨nw_504, nw_6, by decide +kernel, by decide +kernel, by decide +kernel⟩
theorem cw_X5_position : Cw_ yX5_position (.code yX5_position cX5_position 3 (some .int)) 2 := ⟨nw_508, nw_6, by decide +kernel, by decide +kernel, by decide +kernel⟩
theorem cw_X5_bore : Cw_ yX5_bore (.code yX5_bore cX5_bore 2 (some .long)) 1 := ⟨nw_512, nw_6, by decide +kernel, by decide +kernel, by decide +kernel⟩
theorem cw_X5_all : Cw_ yX5_all (.code yX5_all cX5_all 5 (some .long)) 1 := ⟨nw_516, nw_6, by decide +kernel, by decide +kernel, by decide +kernel⟩
theorem cw_L_member : Cw_ yL_member (.codeWith yL_member cL_member 5 (some .int) [(0, 9, 12, 13)]) 3 := ⟨nw_112, nw_0, by decide +kernel, by decide +kernel, by decide +kernel⟩
theorem cw_L_instrument : Cw_ yL_instrument (.codeWith yL_instrument cL_instrument 6 (some .int) [(0, 12, 15, 13)]) 5 := ⟨nw_143, nw_0, by decide +kernel, by decide +kernel, by decide +kernel⟩
theorem cw_L_capital : Cw_ yL_capital (.codeWith yL_capital cL_capital 5 (some .int) [(0, 8, 11, 13)]) 3 := ⟨nw_151, nw_0, by decide +kernel, by decide +kernel, by decide +kernel⟩
theorem cw_L_move : Cw_ yL_move (.codeWith yL_move cL_move 5 (some .int) [(0, 7, 10, 13)]) 4 := ⟨nw_164, nw_0, by decide +kernel, by decide +kernel, by decide +kernel⟩
theorem cw_L_bid : Cw_ yL_bid (.codeWith yL_bid cL_bid 5 (some .int) [(0, 7, 10, 13)]) 4 := ⟨nw_176, nw_0, by decide +kernel, by decide +kernel, by decide +kernel⟩
theorem cw_L_deposit : Cw_ yL_deposit (.codeWith yL_deposit cL_deposit 6 (some .int) [(0, 10, 13, 13), (0, 10, 17, 34)]) 4 := ⟨nw_186, nw_0, by decide +kernel, by decide +kernel, by decide +kernel⟩
theorem cw_L_withdraw : Cw_ yL_withdraw (.codeWith yL_withdraw cL_withdraw 6 (some .int) [(0, 10, 13, 13), (0, 10, 17, 34)]) 4 := ⟨nw_202, nw_0, by decide +kernel, by decide +kernel, by decide +kernel⟩
theorem cw_L_trade : Cw_ yL_trade (.codeWith yL_trade cL_trade 8 (some .int) [(0, 16, 19, 13), (0, 16, 23, 34)]) 7 := ⟨nw_209, nw_0, by decide +kernel, by decide +kernel, by decide +kernel⟩
theorem cw_L_mark : Cw_ yL_mark (.codeWith yL_mark cL_mark 5 (some .int) [(0, 10, 13, 13)]) 4 := ⟨nw_220, nw_0, by decide +kernel, by decide +kernel, by decide +kernel⟩
theorem cw_L_margin : Cw_ yL_margin (.codeWith yL_margin cL_margin 4 (some .int) [(0, 8, 11, 13)]) 3 := ⟨nw_230, nw_0, by decide +kernel, by decide +kernel, by decide +kernel⟩
theorem cw_L_called : Cw_ yL_called (.codeWith yL_called cL_called 4 (some .int) [(0, 8, 11, 13)]) 3 := ⟨nw_237, nw_0, by decide +kernel, by decide +kernel, by decide +kernel⟩
theorem cw_L_closeOut : Cw_ yL_closeOut (.codeWith yL_closeOut cL_closeOut 4 (some .int) [(0, 8, 11, 13), (0, 8, 14, 34)]) 3 := ⟨nw_244, nw_0, by decide +kernel, by decide +kernel, by decide +kernel⟩
theorem cw_L_told : Cw_ yL_told (.codeWith yL_told cL_told 5 (some .int) [(0, 9, 12, 13)]) 4 := ⟨nw_325, nw_0, by decide +kernel, by decide +kernel, by decide +kernel⟩
theorem cw_L_position : Cw_ yL_position (.codeWith yL_position cL_position 5 (some .int) [(0, 10, 13, 13)]) 4 := ⟨nw_333, nw_0, by decide +kernel, by decide +kernel, by decide +kernel⟩
theorem cw_L_bore : Cw_ yL_bore (.codeWith yL_bore cL_bore 4 (some .int) [(0, 8, 11, 13)]) 3 := ⟨nw_340, nw_0, by decide +kernel, by decide +kernel, by decide +kernel⟩
theorem cw_L_all : Cw_ yL_all (.codeWith yL_all cL_all 4 (some .int) [(0, 8, 11, 13)]) 3 := ⟨nw_348, nw_0, by decide +kernel, by decide +kernel, by decide +kernel⟩
theorem bz_0 {P : Prop} [Decidable P] (h : (if P then (1 : Int32) else 0) = 0) : ¬ P := fun q => by rw [if_pos q] at h; exact absurd h (by decide)
theorem bz_1 {P : Prop} [Decidable P] (h : ¬ (if P then (1 : Int32) else 0) = 0) : P := Classical.byContradiction fun q => h (if_neg q)
theorem bz_b {P : Prop} [Decidable P] : (if P then (1 : Int32) else 0) = 0 ∨ (if P then (1 : Int32) else 0) = 1 := by
  by_cases h : P
  · exact Or.inr (if_pos h)
  · exact Or.inl (if_neg h)
def mx_ (x y : Int64) : Int64 := if y < x then x else y
def mn_ (x y : Int64) : Int64 := if y < x then y else x
def ab_ (x : Int32) : Int32 := if 0 ≤ x then x else 0 - x
section MM
variable {p : Program} {l : Launch} {e : Env} {R : Room} {s : State} {m : MethodId} {args : Array Value} {below : List Frame} {meth : Method} {c : Code} {H : Heap} {locs : List Loc} {cells slots : Nat} {Q : State → Prop}
variable {cc : ByteArray} {pc nL : Nat} {own : String} {ls : Array Slot} {rest : List Value} {w : Gh_} {lv : List (Nat × Value)} {index : Nat}
theorem tp_i {x y : Int32} (h : x = y) (k : W p l e R s m args below meth c H locs cells slots Q (F0 m pc ls (.int y :: rest))) : W p l e R s m args below meth c H locs cells slots Q (F0 m pc ls (.int x :: rest)) := h ▸ k
theorem tp_j {x y : Int64} (h : x = y) (k : W p l e R s m args below meth c H locs cells slots Q (F0 m pc ls (.long y :: rest))) : W p l e R s m args below meth c H locs cells slots Q (F0 m pc ls (.long x :: rest)) := h ▸ k
theorem mm_max_w : Cond.code Lib.Math.max.name Lib.Math.max.code 2 (some .int) ∈ nd_ := List.mem_filter.mpr ⟨List.mem_append_right _ (List.mem_of_getElem? (i := 512) (by decide +kernel)), by decide +kernel⟩
theorem mm_max {x y : Int32} (cx : Cx_ p s m c args cc nL own w) (hl : lv_has ls nL lv) (hlk : Cond.methodLink own index ⟨"java/lang/Math", "max", "(II)I"⟩ ∈ nd_) (hf : 1 ≤ R.frames) (hlo : (rest.map fun v => v.category).sum + 13 ≤ R.locals) (hc : cells ≤ R.cells) (hs : slots ≤ R.slots) (hd : decode cc pc = .ok (.invokestatic index, 3)) (kk : W p l e R s m args below meth c H locs cells slots Q (F0 m (pc + 3) ls (.int (if x < y then y else x) :: rest))) : W p l e R s m args below meth c H locs cells slots Q (F0 m pc ls (.int y :: .int x :: rest)) :=
  va_mmax cx.1 cx.2.1 (cx.2.2.1.trans hl.1.symm) cx.2.2.2.1 (cx.2.2.2.2.1 _ hlk) (cx.2.2.2.2.1 _ nw_364) (cx.2.2.2.2.1 _ nw_12) (cx.2.2.2.2.1 _ mm_max_w) hf hlo hc hs hd kk
theorem mm_maxl_w : Cond.code Lib.MathLoose.max_long.x Lib.MathLoose.max_long.code 4 (some .long) ∈ nd_ := List.mem_filter.mpr ⟨List.mem_append_right _ (List.mem_of_getElem? (i := 174) (by decide +kernel)), by decide +kernel⟩
theorem mm_maxl {x y : Int64} (cx : Cx_ p s m c args cc nL own w) (hl : lv_has ls nL lv) (hlk : Cond.methodLink own index ⟨"java/lang/Math", "max", "(JJ)J"⟩ ∈ nd_) (hf : 1 ≤ R.frames) (hlo : (rest.map fun v => v.category).sum + 15 ≤ R.locals) (hc : cells ≤ R.cells) (hs : slots ≤ R.slots) (hd : decode cc pc = .ok (.invokestatic index, 3)) (kk : W p l e R s m args below meth c H locs cells slots Q (F0 m (pc + 3) ls (.long (mx_ x y) :: rest))) : W p l e R s m args below meth c H locs cells slots Q (F0 m pc ls (.long y :: .long x :: rest)) :=
  va_mmax_long cx.1 cx.2.1 (cx.2.2.1.trans hl.1.symm) cx.2.2.2.1 (cx.2.2.2.2.1 _ hlk) (cx.2.2.2.2.1 _ nw_102) (cx.2.2.2.2.1 _ nw_12) (cx.2.2.2.2.1 _ mm_maxl_w) hf hlo hc hs hd kk
theorem mm_minl_w : Cond.code Lib.MathLoose.min_long.x Lib.MathLoose.min_long.code 4 (some .long) ∈ nd_ := List.mem_filter.mpr ⟨List.mem_append_right _ (List.mem_of_getElem? (i := 411) (by decide +kernel)), by decide +kernel⟩
theorem mm_minl {x y : Int64} (cx : Cx_ p s m c args cc nL own w) (hl : lv_has ls nL lv) (hlk : Cond.methodLink own index ⟨"java/lang/Math", "min", "(JJ)J"⟩ ∈ nd_) (hf : 1 ≤ R.frames) (hlo : (rest.map fun v => v.category).sum + 15 ≤ R.locals) (hc : cells ≤ R.cells) (hs : slots ≤ R.slots) (hd : decode cc pc = .ok (.invokestatic index, 3)) (kk : W p l e R s m args below meth c H locs cells slots Q (F0 m (pc + 3) ls (.long (mn_ x y) :: rest))) : W p l e R s m args below meth c H locs cells slots Q (F0 m pc ls (.long y :: .long x :: rest)) :=
  va_mmin_long cx.1 cx.2.1 (cx.2.2.1.trans hl.1.symm) cx.2.2.2.1 (cx.2.2.2.2.1 _ hlk) (cx.2.2.2.2.1 _ nw_274) (cx.2.2.2.2.1 _ nw_12) (cx.2.2.2.2.1 _ mm_minl_w) hf hlo hc hs hd kk
theorem mm_abs_w : Cond.code Lib.Math.abs.name Lib.Math.abs.code 1 (some .int) ∈ nd_ := List.mem_filter.mpr ⟨List.mem_append_right _ (List.mem_of_getElem? (i := 181) (by decide +kernel)), by decide +kernel⟩
theorem mm_abs {x : Int32} (cx : Cx_ p s m c args cc nL own w) (hl : lv_has ls nL lv) (hlk : Cond.methodLink own index ⟨"java/lang/Math", "abs", "(I)I"⟩ ∈ nd_) (hf : 1 ≤ R.frames) (hlo : (rest.map fun v => v.category).sum + 13 ≤ R.locals) (hc : cells ≤ R.cells) (hs : slots ≤ R.slots) (hd : decode cc pc = .ok (.invokestatic index, 3)) (kk : W p l e R s m args below meth c H locs cells slots Q (F0 m (pc + 3) ls (.int (ab_ x) :: rest))) : W p l e R s m args below meth c H locs cells slots Q (F0 m pc ls (.int x :: rest)) :=
  va_mabs cx.1 cx.2.1 (cx.2.2.1.trans hl.1.symm) cx.2.2.2.1 (cx.2.2.2.2.1 _ hlk) (cx.2.2.2.2.1 _ nw_108) (cx.2.2.2.2.1 _ nw_12) (cx.2.2.2.2.1 _ mm_abs_w) hf hlo hc hs hd kk
end MM
