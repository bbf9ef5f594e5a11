def MX0_init : MD := (yX0_init, cX0_init, 2, none)
def MX0_forget : MD := (yX0_forget, cX0_forget, 1, none)
def MX0_remember : MD := (yX0_remember, cX0_remember, 2, none)
def MX0_takeBack : MD := (yX0_takeBack, cX0_takeBack, 2, none)
def MX1_wholeOf : MD := (yX1_wholeOf, cX1_wholeOf, 4, (some .long))
def MX1_failing : MD := (yX1_failing, cX1_failing, 6, (some .long))
def MX1_greatest : MD := (yX1_greatest, cX1_greatest, 9, (some .long))
def MX1_byTrying : MD := (yX1_byTrying, cX1_byTrying, 12, (some .long))
def MX1_bySparing : MD := (yX1_bySparing, cX1_bySparing, 7, (some .long))
def MX1_unbeaten : MD := (yX1_unbeaten, cX1_unbeaten, 14, (some .long))
def MX1_noOtherBeats : MD := (yX1_noOtherBeats, cX1_noOtherBeats, 4, (some .boolean))
def MX1_unitsLeft : MD := (yX1_unitsLeft, cX1_unitsLeft, 2, (some .long))
def MX2_init : MD := (yX2_init, cX2_init, 2, none)
def MX2_startFrom : MD := (yX2_startFrom, cX2_startFrom, 3, none)
def MX2_copyFrom : MD := (yX2_copyFrom, cX2_copyFrom, 3, none)
def MX2_knows : MD := (yX2_knows, cX2_knows, 2, (some .boolean))
def MX2_isEnded : MD := (yX2_isEnded, cX2_isEnded, 1, (some .boolean))
def MX2_act : MD := (yX2_act, cX2_act, 3, none)
def MX2_raise : MD := (yX2_raise, cX2_raise, 2, none)
def MX2_nextBehind : MD := (yX2_nextBehind, cX2_nextBehind, 4, (some .int))
def MX2_oddsOfTurn : MD := (yX2_oddsOfTurn, cX2_oddsOfTurn, 1, (some .int))
def MX2_betterThan : MD := (yX2_betterThan, cX2_betterThan, 4, (some .int))
def MX2_leaders : MD := (yX2_leaders, cX2_leaders, 3, (some .int))
def MX2_who : MD := (yX2_who, cX2_who, 4, (some .int))
def MX2_notOut : MD := (yX2_notOut, cX2_notOut, 1, (some .int))
def MX3_init : MD := (yX3_init, cX3_init, 1, none)
def MX3_such : MD := (yX3_such, cX3_such, 6, (some .int))
def MX3_outHere : MD := (yX3_outHere, cX3_outHere, 5, (some .int))
def MX3_goOn : MD := (yX3_goOn, cX3_goOn, 8, none)
def MX3_empty : MD := (yX3_empty, cX3_empty, 3, none)
def MX4_init : MD := (yX4_init, cX4_init, 1, none)
def MX4_append : MD := (yX4_append, cX4_append, 5, none)
def MX4_firstFault : MD := (yX4_firstFault, cX4_firstFault, 2, (some .int))
def MX4_canStand : MD := (yX4_canStand, cX4_canStand, 3, (some .boolean))
def MX4_throwersTold : MD := (yX4_throwersTold, cX4_throwersTold, 1, (some .int))
def MX4_barTold : MD := (yX4_barTold, cX4_barTold, 1, (some .int))
def MX4_strengthTold : MD := (yX4_strengthTold, cX4_strengthTold, 2, (some .int))
def MX4_windTold : MD := (yX4_windTold, cX4_windTold, 2, (some .int))
def MX4_figureAt : MD := (yX4_figureAt, cX4_figureAt, 2, (some .int))
def MX5_init : MD := (yX5_init, cX5_init, 1, none)
def MX5_start : MD := (yX5_start, cX5_start, 3, none)
def MX5_copyFrom : MD := (yX5_copyFrom, cX5_copyFrom, 2, none)
def MX5_isOut : MD := (yX5_isOut, cX5_isOut, 1, (some .boolean))
def MX5_mayTry : MD := (yX5_mayTry, cX5_mayTry, 1, (some .boolean))
def MX5_attempt : MD := (yX5_attempt, cX5_attempt, 3, none)
def MX5_rest : MD := (yX5_rest, cX5_rest, 1, none)
def MX5_startHeight : MD := (yX5_startHeight, cX5_startHeight, 1, none)
def MX5_oddsAt : MD := (yX5_oddsAt, cX5_oddsAt, 5, (some .int))
def MX5_isBetterThan : MD := (yX5_isBetterThan, cX5_isBetterThan, 2, (some .boolean))
def MX5_told : MD := (yX5_told, cX5_told, 2, (some .int))
def MX6_init : MD := (yX6_init, cX6_init, 2, none)
def MX6_write : MD := (yX6_write, cX6_write, 4, (some .int))
def MX6_wipe : MD := (yX6_wipe, cX6_wipe, 2, (some .int))
def MX6_fault : MD := (yX6_fault, cX6_fault, 1, (some .int))
def MX6_field : MD := (yX6_field, cX6_field, 2, (some .int))
def MX6_thrower : MD := (yX6_thrower, cX6_thrower, 3, (some .int))
def MX6_on : MD := (yX6_on, cX6_on, 1, (some .int))
def MX6_rank : MD := (yX6_rank, cX6_rank, 2, (some .int))
def MX6_odds : MD := (yX6_odds, cX6_odds, 3, (some .int))
def MX6_toss : MD := (yX6_toss, cX6_toss, 2, (some .int))
def MX6_spare : MD := (yX6_spare, cX6_spare, 1, (some .int))
def MX6_act : MD := (yX6_act, cX6_act, 2, (some .int))
def MX6_undo : MD := (yX6_undo, cX6_undo, 1, (some .int))
def MX6_judge : MD := (yX6_judge, cX6_judge, 5, (some .int))
def MX6_figureOf : MD := (yX6_figureOf, cX6_figureOf, 4, (some .int))
def MX6_clears : MD := (yX6_clears, cX6_clears, 6, (some .int))
def MX6_mean : MD := (yX6_mean, cX6_mean, 8, (some .long))
def MX6_wise : MD := (yX6_wise, cX6_wise, 9, (some .int))
def MX6_first : MD := (yX6_first, cX6_first, 7, (some .long))
def MX6_alone : MD := (yX6_alone, cX6_alone, 16, (some .int))
def MX6_refusalAhead : MD := (yX6_refusalAhead, cX6_refusalAhead, 3, (some .int))
def MX6_leastTerms : MD := (yX6_leastTerms, cX6_leastTerms, 9, (some .long))
def MX6_commonDivisor : MD := (yX6_commonDivisor, cX6_commonDivisor, 11, (some .long))
def MX6_sheets : MD := (yX6_sheets, cX6_sheets, 4, (some .int))
def MX6_seed : MD := (yX6_seed, cX6_seed, 5, (some .long))
def MX6_fair : MD := (yX6_fair, cX6_fair, 4, (some .int))
def MX6_keep : MD := (yX6_keep, cX6_keep, 2, (some .int))
def MX6_again : MD := (yX6_again, cX6_again, 2, (some .int))
def MX6_count : MD := (yX6_count, cX6_count, 2, (some .int))
def MX7_init : MD := (yX7_init, cX7_init, 1, none)
def MX7_in : MD := (yX7_in, cX7_in, 6, (some .boolean))
def MX7_write : MD := (yX7_write, cX7_write, 5, (some .int))
def MX7_wipe : MD := (yX7_wipe, cX7_wipe, 2, (some .int))
def MX7_fits : MD := (yX7_fits, cX7_fits, 3, (some .boolean))
def MX7_fault : MD := (yX7_fault, cX7_fault, 2, (some .int))
def MX7_field : MD := (yX7_field, cX7_field, 2, (some .int))
def MX7_isThrower : MD := (yX7_isThrower, cX7_isThrower, 2, (some .boolean))
def MX7_mark : MD := (yX7_mark, cX7_mark, 4, (some .int))
def MX7_set : MD := (yX7_set, cX7_set, 5, none)
def MX7_thrower : MD := (yX7_thrower, cX7_thrower, 3, (some .int))
def MX7_on : MD := (yX7_on, cX7_on, 1, (some .int))
def MX7_value : MD := (yX7_value, cX7_value, 3, (some .int))
def MX7_valueOf : MD := (yX7_valueOf, cX7_valueOf, 3, (some .int))
def MX7_rankOf : MD := (yX7_rankOf, cX7_rankOf, 5, (some .int))
def MX7_rank : MD := (yX7_rank, cX7_rank, 2, (some .int))
def MX7_oddsOf : MD := (yX7_oddsOf, cX7_oddsOf, 5, (some .int))
def MX7_odds : MD := (yX7_odds, cX7_odds, 3, (some .int))
def MX7_keepAct : MD := (yX7_keepAct, cX7_keepAct, 2, none)
def MX7_nextIn : MD := (yX7_nextIn, cX7_nextIn, 4, (some .int))
def MX7_goOn : MD := (yX7_goOn, cX7_goOn, 5, none)
def MX7_make : MD := (yX7_make, cX7_make, 4, none)
def MX7_act : MD := (yX7_act, cX7_act, 2, (some .int))
def MX7_toss : MD := (yX7_toss, cX7_toss, 2, (some .int))
def MX7_spare : MD := (yX7_spare, cX7_spare, 1, (some .int))
def MX7_undo : MD := (yX7_undo, cX7_undo, 2, (some .int))
def MX7_tenTo : MD := (yX7_tenTo, cX7_tenTo, 4, (some .long))
def MX7_copyNow : MD := (yX7_copyNow, cX7_copyNow, 2, none)
def MX7_judge : MD := (yX7_judge, cX7_judge, 5, (some .int))
def MX7_common : MD := (yX7_common, cX7_common, 10, (some .long))
def MX7_clearsOf : MD := (yX7_clearsOf, cX7_clearsOf, 7, (some .int))
def MX7_isOut : MD := (yX7_isOut, cX7_isOut, 2, (some .boolean))
def MX7_clears : MD := (yX7_clears, cX7_clears, 5, (some .int))
def MX7_place : MD := (yX7_place, cX7_place, 4, (some .int))
def MX7_layMeans : MD := (yX7_layMeans, cX7_layMeans, 6, none)
def MX7_layMean : MD := (yX7_layMean, cX7_layMean, 13, none)
def MX7_refused : MD := (yX7_refused, cX7_refused, 3, (some .int))
def MX7_mean : MD := (yX7_mean, cX7_mean, 10, (some .long))
def MX7_wise : MD := (yX7_wise, cX7_wise, 12, (some .int))
def MX7_partsOf : MD := (yX7_partsOf, cX7_partsOf, 16, (some .long))
def MX7_first : MD := (yX7_first, cX7_first, 9, (some .long))
def MX7_alone : MD := (yX7_alone, cX7_alone, 8, (some .int))
def MX7_sheets : MD := (yX7_sheets, cX7_sheets, 11, (some .int))
def MX7_seed : MD := (yX7_seed, cX7_seed, 5, (some .long))
def MX7_winners : MD := (yX7_winners, cX7_winners, 4, (some .int))
def MX7_fair : MD := (yX7_fair, cX7_fair, 2, (some .int))
def MX7_keep : MD := (yX7_keep, cX7_keep, 3, (some .int))
def MX7_again : MD := (yX7_again, cX7_again, 3, (some .int))
def MX7_those : MD := (yX7_those, cX7_those, 4, (some .int))
def MX7_count : MD := (yX7_count, cX7_count, 2, (some .int))
def MJ9_max_7cf53 : MD := (yJ9_max_7cf53, cJ9_max_7cf53, 2, (some .int))
def MJ9_max_f86c9 : MD := (yJ9_max_f86c9, cJ9_max_f86c9, 4, (some .long))
def MJ9_min_7cf53 : MD := (yJ9_min_7cf53, cJ9_min_7cf53, 2, (some .int))
def ML_law : MD := (yL_law, cL_law, 4, some .boolean)
theorem gwc_X0 : ∀ w ∈ u_ws RX0 TX0 3, w ∈ GW := by decide +kernel
theorem gwc_X2 : ∀ w ∈ u_ws RX2 TX2 4, w ∈ GW := by decide +kernel
theorem gwc_X3 : ∀ w ∈ u_ws RX3 TX3 2, w ∈ GW := by decide +kernel
theorem gwc_X4 : ∀ w ∈ u_ws RX4 TX4 2, w ∈ GW := by decide +kernel
theorem gwc_X5 : ∀ w ∈ u_ws RX5 TX5 9, w ∈ GW := by decide +kernel
theorem gwc_X6 : ∀ w ∈ u_ws RX6 TX6 9, w ∈ GW := by decide +kernel
theorem gwc_X7 : ∀ w ∈ u_ws RX7 TX7 17, w ∈ GW := by decide +kernel
theorem flX0_11 (M : MD) (h : M.1.cls = RX0) : FL M 11 0 0 := ⟨RX0, TX0, 3, rfl, by decide, gwc_X0, by rw [h]; exact (gt_1 111 rfl rfl)⟩
theorem fpX0_11 (M : MD) (h : M.1.cls = RX0) (hi : M.1.name = "<init>") : FP M 11 0 0 (.array (.object "UpWithSheaf$Contest")) := ⟨RX0, TX0, 3, tyX0, ⟨rfl, by decide, gwc_X0, by rw [h]; exact (gt_1 111 rfl rfl)⟩, tyX0_ok, nmX0, rfl, Or.inr ⟨rfl, hi, by rw [h]; rfl⟩⟩
theorem cX0_17 (M : MD) (h : M.1.cls = RX0) : CI M 17 MX2_init 0 := ⟨⟨(by rw [h]; exact (gt_1 110 rfl rfl)), (gt_1 37 rfl rfl), (gt_1 3 rfl rfl), (show Cond.code MX2_init.1 MX2_init.2.1 MX2_init.2.2.1 MX2_init.2.2.2 ∈ GW from gt_1 38 rfl rfl), rfl, rfl⟩, ⟨by decide, by decide, by decide +kernel⟩, Nat.le_of_ble_eq_true rfl⟩
theorem flX0_18 (M : MD) (h : M.1.cls = RX0) : FL M 18 0 1 := ⟨RX0, TX0, 3, rfl, by decide, gwc_X0, by rw [h]; exact (gt_1 112 rfl rfl)⟩
theorem fpX0_18 (M : MD) (h : M.1.cls = RX0) : FP M 18 0 1 .int := ⟨RX0, TX0, 3, tyX0, ⟨rfl, by decide, gwc_X0, by rw [h]; exact (gt_1 112 rfl rfl)⟩, tyX0_ok, nmX0, rfl, Or.inl rfl⟩
theorem flX0_22 (M : MD) (h : M.1.cls = RX0) : FL M 22 0 2 := ⟨RX0, TX0, 3, rfl, by decide, gwc_X0, by rw [h]; exact (gt_1 114 rfl rfl)⟩
theorem fpX0_22 (M : MD) (h : M.1.cls = RX0) : FP M 22 0 2 .int := ⟨RX0, TX0, 3, tyX0, ⟨rfl, by decide, gwc_X0, by rw [h]; exact (gt_1 114 rfl rfl)⟩, tyX0_ok, nmX0, rfl, Or.inl rfl⟩
theorem cX0_25 (M : MD) (h : M.1.cls = RX0) : CV M 25 MX2_copyFrom 1 := ⟨⟨(by rw [h]; exact (gt_2 52 rfl rfl)), (gt_2 53 rfl rfl), (gt_2 54 rfl rfl), (gt_1 3 rfl rfl), (show Cond.code MX2_copyFrom.1 MX2_copyFrom.2.1 MX2_copyFrom.2.2.1 MX2_copyFrom.2.2.2 ∈ GW from gt_2 55 rfl rfl)⟩, ⟨by decide, by decide, by decide +kernel⟩, Nat.le_of_ble_eq_true rfl⟩
theorem flX1_9 (M : MD) (h : M.1.cls = RX1) : FL M 9 4 3 := ⟨RX5, TX5, 9, rfl, by decide, gwc_X5, by rw [h]; exact (gt_1 54 rfl rfl)⟩
theorem cX1_17 (M : MD) (h : M.1.cls = RX1) : CV M 17 MX5_oddsAt 2 := ⟨⟨(by rw [h]; exact (gt_2 125 rfl rfl)), (gt_2 29 rfl rfl), (gt_2 30 rfl rfl), (gt_1 4 rfl rfl), (show Cond.code MX5_oddsAt.1 MX5_oddsAt.2.1 MX5_oddsAt.2.2.1 MX5_oddsAt.2.2.2 ∈ GW from gt_2 31 rfl rfl)⟩, ⟨by decide, by decide, by decide +kernel⟩, Nat.le_of_ble_eq_true rfl⟩
theorem cX1_21 (M : MD) (h : M.1.cls = RX1) : CS M 21 MX1_unitsLeft 1 := ⟨⟨(by rw [h]; exact (gt_2 143 rfl rfl)), (gt_2 144 rfl rfl), (gt_1 9 rfl rfl), (show Cond.code MX1_unitsLeft.1 MX1_unitsLeft.2.1 MX1_unitsLeft.2.2.1 MX1_unitsLeft.2.2.2 ∈ GW from gt_2 145 rfl rfl)⟩, ⟨by decide, by decide, by decide +kernel⟩, Nat.le_of_ble_eq_true rfl⟩
theorem cX1_27 (M : MD) (h : M.1.cls = RX1) : CS M 27 MX1_byTrying 7 := ⟨⟨(by rw [h]; exact (gt_2 147 rfl rfl)), (gt_2 148 rfl rfl), (gt_1 9 rfl rfl), (show Cond.code MX1_byTrying.1 MX1_byTrying.2.1 MX1_byTrying.2.2.1 MX1_byTrying.2.2.2 ∈ GW from gt_2 149 rfl rfl)⟩, ⟨by decide, by decide, by decide +kernel⟩, Nat.le_of_ble_eq_true rfl⟩
theorem cX1_31 (M : MD) (h : M.1.cls = RX1) : CS M 31 MX1_bySparing 7 := ⟨⟨(by rw [h]; exact (gt_2 151 rfl rfl)), (gt_2 152 rfl rfl), (gt_1 9 rfl rfl), (show Cond.code MX1_bySparing.1 MX1_bySparing.2.1 MX1_bySparing.2.2.1 MX1_bySparing.2.2.2 ∈ GW from gt_2 153 rfl rfl)⟩, ⟨by decide, by decide, by decide +kernel⟩, Nat.le_of_ble_eq_true rfl⟩
theorem cX1_34 (M : MD) (h : M.1.cls = RX1) : CS M 34 MJ9_max_f86c9 2 := ⟨⟨(by rw [h]; exact (gt_2 154 rfl rfl)), (gt_2 155 rfl rfl), (gt_1 8 rfl rfl), (show Cond.code MJ9_max_f86c9.1 MJ9_max_f86c9.2.1 MJ9_max_f86c9.2.2.1 MJ9_max_f86c9.2.2.2 ∈ GW from gt_2 156 rfl rfl)⟩, ⟨by decide, by decide, by decide +kernel⟩, Nat.le_of_ble_eq_true rfl⟩
theorem cX1_40 (M : MD) (h : M.1.cls = RX1) : CS M 40 MX1_greatest 7 := ⟨⟨(by rw [h]; exact (gt_2 150 rfl rfl)), (gt_2 141 rfl rfl), (gt_1 9 rfl rfl), (show Cond.code MX1_greatest.1 MX1_greatest.2.1 MX1_greatest.2.2.1 MX1_greatest.2.2.2 ∈ GW from gt_2 142 rfl rfl)⟩, ⟨by decide, by decide, by decide +kernel⟩, Nat.le_of_ble_eq_true rfl⟩
theorem cX1_43 (M : MD) (h : M.1.cls = RX1) : CV M 43 MX5_isOut 0 := ⟨⟨(by rw [h]; exact (gt_2 171 rfl rfl)), (gt_2 115 rfl rfl), (gt_2 116 rfl rfl), (gt_1 4 rfl rfl), (show Cond.code MX5_isOut.1 MX5_isOut.2.1 MX5_isOut.2.2.1 MX5_isOut.2.2.2 ∈ GW from gt_2 117 rfl rfl)⟩, ⟨by decide, by decide, by decide +kernel⟩, Nat.le_of_ble_eq_true rfl⟩
theorem cX1_47 (M : MD) (h : M.1.cls = RX1) : CS M 47 MX1_noOtherBeats 3 := ⟨⟨(by rw [h]; exact (gt_2 172 rfl rfl)), (gt_2 173 rfl rfl), (gt_1 9 rfl rfl), (show Cond.code MX1_noOtherBeats.1 MX1_noOtherBeats.2.1 MX1_noOtherBeats.2.2.1 MX1_noOtherBeats.2.2.2 ∈ GW from gt_2 174 rfl rfl)⟩, ⟨by decide, by decide, by decide +kernel⟩, Nat.le_of_ble_eq_true rfl⟩
theorem flX1_51 (M : MD) (h : M.1.cls = RX1) : FL M 51 1 2 := ⟨RX2, TX2, 4, rfl, by decide, gwc_X2, by rw [h]; exact (gt_1 89 rfl rfl)⟩
theorem cX1_56 (M : MD) (h : M.1.cls = RX1) : CV M 56 MX5_copyFrom 1 := ⟨⟨(by rw [h]; exact (gt_2 176 rfl rfl)), (gt_2 57 rfl rfl), (gt_2 58 rfl rfl), (gt_1 4 rfl rfl), (show Cond.code MX5_copyFrom.1 MX5_copyFrom.2.1 MX5_copyFrom.2.2.1 MX5_copyFrom.2.2.2 ∈ GW from gt_2 59 rfl rfl)⟩, ⟨by decide, by decide, by decide +kernel⟩, Nat.le_of_ble_eq_true rfl⟩
theorem cX1_60 (M : MD) (h : M.1.cls = RX1) : CV M 60 MX5_attempt 2 := ⟨⟨(by rw [h]; exact (gt_2 177 rfl rfl)), (gt_2 69 rfl rfl), (gt_2 70 rfl rfl), (gt_1 4 rfl rfl), (show Cond.code MX5_attempt.1 MX5_attempt.2.1 MX5_attempt.2.2.1 MX5_attempt.2.2.2 ∈ GW from gt_2 71 rfl rfl)⟩, ⟨by decide, by decide, by decide +kernel⟩, Nat.le_of_ble_eq_true rfl⟩
theorem cX1_64 (M : MD) (h : M.1.cls = RX1) : CV M 64 MX5_startHeight 0 := ⟨⟨(by rw [h]; exact (gt_2 178 rfl rfl)), (gt_2 85 rfl rfl), (gt_2 86 rfl rfl), (gt_1 4 rfl rfl), (show Cond.code MX5_startHeight.1 MX5_startHeight.2.1 MX5_startHeight.2.2.1 MX5_startHeight.2.2.2 ∈ GW from gt_2 87 rfl rfl)⟩, ⟨by decide, by decide, by decide +kernel⟩, Nat.le_of_ble_eq_true rfl⟩
theorem cX1_67 (M : MD) (h : M.1.cls = RX1) : CS M 67 MX1_unbeaten 6 := ⟨⟨(by rw [h]; exact (gt_2 179 rfl rfl)), (gt_2 169 rfl rfl), (gt_1 9 rfl rfl), (show Cond.code MX1_unbeaten.1 MX1_unbeaten.2.1 MX1_unbeaten.2.2.1 MX1_unbeaten.2.2.2 ∈ GW from gt_2 170 rfl rfl)⟩, ⟨by decide, by decide, by decide +kernel⟩, Nat.le_of_ble_eq_true rfl⟩
theorem flX1_71 (M : MD) (h : M.1.cls = RX1) : FL M 71 1 1 := ⟨RX2, TX2, 4, rfl, by decide, gwc_X2, by rw [h]; exact (gt_1 87 rfl rfl)⟩
theorem flX1_74 (M : MD) (h : M.1.cls = RX1) : FL M 74 1 0 := ⟨RX2, TX2, 4, rfl, by decide, gwc_X2, by rw [h]; exact (gt_1 84 rfl rfl)⟩
theorem cX1_78 (M : MD) (h : M.1.cls = RX1) : CV M 78 MX5_isBetterThan 1 := ⟨⟨(by rw [h]; exact (gt_2 175 rfl rfl)), (gt_2 21 rfl rfl), (gt_2 22 rfl rfl), (gt_1 4 rfl rfl), (show Cond.code MX5_isBetterThan.1 MX5_isBetterThan.2.1 MX5_isBetterThan.2.2.1 MX5_isBetterThan.2.2.2 ∈ GW from gt_2 23 rfl rfl)⟩, ⟨by decide, by decide, by decide +kernel⟩, Nat.le_of_ble_eq_true rfl⟩
theorem flX2_11 (M : MD) (h : M.1.cls = RX2) : FL M 11 1 0 := ⟨RX2, TX2, 4, rfl, by decide, gwc_X2, by rw [h]; exact (gt_1 82 rfl rfl)⟩
theorem fpX2_11 (M : MD) (h : M.1.cls = RX2) (hi : M.1.name = "<init>") : FP M 11 1 0 (.array (.object "UpWithSheaf$Thrower")) := ⟨RX2, TX2, 4, tyX2, ⟨rfl, by decide, gwc_X2, by rw [h]; exact (gt_1 82 rfl rfl)⟩, tyX2_ok, nmX2, rfl, Or.inr ⟨rfl, hi, by rw [h]; rfl⟩⟩
theorem cX2_17 (M : MD) (h : M.1.cls = RX2) : CI M 17 MX5_init 0 := ⟨⟨(by rw [h]; exact (gt_1 43 rfl rfl)), (gt_1 44 rfl rfl), (gt_1 4 rfl rfl), (show Cond.code MX5_init.1 MX5_init.2.1 MX5_init.2.2.1 MX5_init.2.2.2 ∈ GW from gt_1 45 rfl rfl), rfl, rfl⟩, ⟨by decide, by decide, by decide +kernel⟩, Nat.le_of_ble_eq_true rfl⟩
theorem flX2_18 (M : MD) (h : M.1.cls = RX2) : FL M 18 1 1 := ⟨RX2, TX2, 4, rfl, by decide, gwc_X2, by rw [h]; exact (gt_1 85 rfl rfl)⟩
theorem fpX2_18 (M : MD) (h : M.1.cls = RX2) : FP M 18 1 1 .int := ⟨RX2, TX2, 4, tyX2, ⟨rfl, by decide, gwc_X2, by rw [h]; exact (gt_1 85 rfl rfl)⟩, tyX2_ok, nmX2, rfl, Or.inl rfl⟩
theorem flX2_22 (M : MD) (h : M.1.cls = RX2) : FL M 22 1 2 := ⟨RX2, TX2, 4, rfl, by decide, gwc_X2, by rw [h]; exact (gt_1 88 rfl rfl)⟩
theorem fpX2_22 (M : MD) (h : M.1.cls = RX2) : FP M 22 1 2 .int := ⟨RX2, TX2, 4, tyX2, ⟨rfl, by decide, gwc_X2, by rw [h]; exact (gt_1 88 rfl rfl)⟩, tyX2_ok, nmX2, rfl, Or.inl rfl⟩
theorem flX2_25 (M : MD) (h : M.1.cls = RX2) : FL M 25 1 3 := ⟨RX2, TX2, 4, rfl, by decide, gwc_X2, by rw [h]; exact (gt_1 91 rfl rfl)⟩
theorem fpX2_25 (M : MD) (h : M.1.cls = RX2) : FP M 25 1 3 .int := ⟨RX2, TX2, 4, tyX2, ⟨rfl, by decide, gwc_X2, by rw [h]; exact (gt_1 91 rfl rfl)⟩, tyX2_ok, nmX2, rfl, Or.inl rfl⟩
theorem cX2_28 (M : MD) (h : M.1.cls = RX2) : CV M 28 MX4_throwersTold 0 := ⟨⟨(by rw [h]; exact (gt_1 199 rfl rfl)), (gt_1 200 rfl rfl), (gt_1 201 rfl rfl), (gt_1 2 rfl rfl), (show Cond.code MX4_throwersTold.1 MX4_throwersTold.2.1 MX4_throwersTold.2.2.1 MX4_throwersTold.2.2.2 ∈ GW from gt_1 202 rfl rfl)⟩, ⟨by decide, by decide, by decide +kernel⟩, Nat.le_of_ble_eq_true rfl⟩
theorem cX2_34 (M : MD) (h : M.1.cls = RX2) : CV M 34 MX4_barTold 0 := ⟨⟨(by rw [h]; exact (gt_1 206 rfl rfl)), (gt_1 207 rfl rfl), (gt_1 208 rfl rfl), (gt_1 2 rfl rfl), (show Cond.code MX4_barTold.1 MX4_barTold.2.1 MX4_barTold.2.2.1 MX4_barTold.2.2.2 ∈ GW from gt_1 209 rfl rfl)⟩, ⟨by decide, by decide, by decide +kernel⟩, Nat.le_of_ble_eq_true rfl⟩
theorem cX2_37 (M : MD) (h : M.1.cls = RX2) : CV M 37 MX4_strengthTold 1 := ⟨⟨(by rw [h]; exact (gt_1 214 rfl rfl)), (gt_1 215 rfl rfl), (gt_1 216 rfl rfl), (gt_1 2 rfl rfl), (show Cond.code MX4_strengthTold.1 MX4_strengthTold.2.1 MX4_strengthTold.2.2.1 MX4_strengthTold.2.2.2 ∈ GW from gt_1 217 rfl rfl)⟩, ⟨by decide, by decide, by decide +kernel⟩, Nat.le_of_ble_eq_true rfl⟩
theorem cX2_41 (M : MD) (h : M.1.cls = RX2) : CV M 41 MX4_windTold 1 := ⟨⟨(by rw [h]; exact (gt_1 218 rfl rfl)), (gt_1 219 rfl rfl), (gt_1 220 rfl rfl), (gt_1 2 rfl rfl), (show Cond.code MX4_windTold.1 MX4_windTold.2.1 MX4_windTold.2.2.1 MX4_windTold.2.2.2 ∈ GW from gt_1 221 rfl rfl)⟩, ⟨by decide, by decide, by decide +kernel⟩, Nat.le_of_ble_eq_true rfl⟩
theorem cX2_44 (M : MD) (h : M.1.cls = RX2) : CV M 44 MX5_start 2 := ⟨⟨(by rw [h]; exact (gt_1 222 rfl rfl)), (gt_1 48 rfl rfl), (gt_1 49 rfl rfl), (gt_1 4 rfl rfl), (show Cond.code MX5_start.1 MX5_start.2.1 MX5_start.2.2.1 MX5_start.2.2.2 ∈ GW from gt_1 50 rfl rfl)⟩, ⟨by decide, by decide, by decide +kernel⟩, Nat.le_of_ble_eq_true rfl⟩
theorem cX2_48 (M : MD) (h : M.1.cls = RX2) : CV M 48 MX2_nextBehind 1 := ⟨⟨(by rw [h]; exact (gt_1 223 rfl rfl)), (gt_1 225 rfl rfl), (gt_s 1 rfl rfl), (gt_1 3 rfl rfl), (show Cond.code MX2_nextBehind.1 MX2_nextBehind.2.1 MX2_nextBehind.2.2.1 MX2_nextBehind.2.2.2 ∈ GW from gt_1 226 rfl rfl)⟩, ⟨by decide, by decide, by decide +kernel⟩, Nat.le_of_ble_eq_true rfl⟩
theorem cX2_51 (M : MD) (h : M.1.cls = RX2) : CV M 51 MX5_copyFrom 1 := ⟨⟨(by rw [h]; exact (gt_2 56 rfl rfl)), (gt_2 57 rfl rfl), (gt_2 58 rfl rfl), (gt_1 4 rfl rfl), (show Cond.code MX5_copyFrom.1 MX5_copyFrom.2.1 MX5_copyFrom.2.2.1 MX5_copyFrom.2.2.2 ∈ GW from gt_2 59 rfl rfl)⟩, ⟨by decide, by decide, by decide +kernel⟩, Nat.le_of_ble_eq_true rfl⟩
theorem cX2_55 (M : MD) (h : M.1.cls = RX2) : CV M 55 MX2_knows 1 := ⟨⟨(by rw [h]; exact (gt_1 227 rfl rfl)), (gt_1 228 rfl rfl), (gt_1 229 rfl rfl), (gt_1 3 rfl rfl), (show Cond.code MX2_knows.1 MX2_knows.2.1 MX2_knows.2.2.1 MX2_knows.2.2.2 ∈ GW from gt_1 230 rfl rfl)⟩, ⟨by decide, by decide, by decide +kernel⟩, Nat.le_of_ble_eq_true rfl⟩
theorem cX2_59 (M : MD) (h : M.1.cls = RX2) : CV M 59 MX5_rest 0 := ⟨⟨(by rw [h]; exact (gt_2 64 rfl rfl)), (gt_2 65 rfl rfl), (gt_2 66 rfl rfl), (gt_1 4 rfl rfl), (show Cond.code MX5_rest.1 MX5_rest.2.1 MX5_rest.2.2.1 MX5_rest.2.2.2 ∈ GW from gt_2 67 rfl rfl)⟩, ⟨by decide, by decide, by decide +kernel⟩, Nat.le_of_ble_eq_true rfl⟩
theorem cX2_62 (M : MD) (h : M.1.cls = RX2) : CV M 62 MX5_attempt 2 := ⟨⟨(by rw [h]; exact (gt_2 68 rfl rfl)), (gt_2 69 rfl rfl), (gt_2 70 rfl rfl), (gt_1 4 rfl rfl), (show Cond.code MX5_attempt.1 MX5_attempt.2.1 MX5_attempt.2.2.1 MX5_attempt.2.2.2 ∈ GW from gt_2 71 rfl rfl)⟩, ⟨by decide, by decide, by decide +kernel⟩, Nat.le_of_ble_eq_true rfl⟩
theorem cX2_66 (M : MD) (h : M.1.cls = RX2) : CV M 66 MX2_notOut 0 := ⟨⟨(by rw [h]; exact (gt_2 72 rfl rfl)), (gt_2 73 rfl rfl), (gt_2 74 rfl rfl), (gt_1 3 rfl rfl), (show Cond.code MX2_notOut.1 MX2_notOut.2.1 MX2_notOut.2.2.1 MX2_notOut.2.2.2 ∈ GW from gt_2 75 rfl rfl)⟩, ⟨by decide, by decide, by decide +kernel⟩, Nat.le_of_ble_eq_true rfl⟩
theorem cX2_69 (M : MD) (h : M.1.cls = RX2) : CV M 69 MX2_raise 0 := ⟨⟨(by rw [h]; exact (gt_2 80 rfl rfl)), (gt_2 82 rfl rfl), (gt_s 3 rfl rfl), (gt_1 3 rfl rfl), (show Cond.code MX2_raise.1 MX2_raise.2.1 MX2_raise.2.2.1 MX2_raise.2.2.2 ∈ GW from gt_2 83 rfl rfl)⟩, ⟨by decide, by decide, by decide +kernel⟩, Nat.le_of_ble_eq_true rfl⟩
theorem cX2_72 (M : MD) (h : M.1.cls = RX2) : CV M 72 MX5_startHeight 0 := ⟨⟨(by rw [h]; exact (gt_2 84 rfl rfl)), (gt_2 85 rfl rfl), (gt_2 86 rfl rfl), (gt_1 4 rfl rfl), (show Cond.code MX5_startHeight.1 MX5_startHeight.2.1 MX5_startHeight.2.2.1 MX5_startHeight.2.2.2 ∈ GW from gt_2 87 rfl rfl)⟩, ⟨by decide, by decide, by decide +kernel⟩, Nat.le_of_ble_eq_true rfl⟩
theorem cX2_75 (M : MD) (h : M.1.cls = RX2) : CV M 75 MX5_mayTry 0 := ⟨⟨(by rw [h]; exact (gt_1 231 rfl rfl)), (gt_1 232 rfl rfl), (gt_1 233 rfl rfl), (gt_1 4 rfl rfl), (show Cond.code MX5_mayTry.1 MX5_mayTry.2.1 MX5_mayTry.2.2.1 MX5_mayTry.2.2.2 ∈ GW from gt_1 234 rfl rfl)⟩, ⟨by decide, by decide, by decide +kernel⟩, Nat.le_of_ble_eq_true rfl⟩
theorem cX2_79 (M : MD) (h : M.1.cls = RX2) : CV M 79 MX5_oddsAt 2 := ⟨⟨(by rw [h]; exact (gt_2 221 rfl rfl)), (gt_2 29 rfl rfl), (gt_2 30 rfl rfl), (gt_1 4 rfl rfl), (show Cond.code MX5_oddsAt.1 MX5_oddsAt.2.1 MX5_oddsAt.2.2.1 MX5_oddsAt.2.2.2 ∈ GW from gt_2 31 rfl rfl)⟩, ⟨by decide, by decide, by decide +kernel⟩, Nat.le_of_ble_eq_true rfl⟩
theorem cX2_83 (M : MD) (h : M.1.cls = RX2) : CV M 83 MX5_isBetterThan 1 := ⟨⟨(by rw [h]; exact (gt_2 20 rfl rfl)), (gt_2 21 rfl rfl), (gt_2 22 rfl rfl), (gt_1 4 rfl rfl), (show Cond.code MX5_isBetterThan.1 MX5_isBetterThan.2.1 MX5_isBetterThan.2.2.1 MX5_isBetterThan.2.2.2 ∈ GW from gt_2 23 rfl rfl)⟩, ⟨by decide, by decide, by decide +kernel⟩, Nat.le_of_ble_eq_true rfl⟩
theorem cX2_87 (M : MD) (h : M.1.cls = RX2) : CV M 87 MX2_betterThan 1 := ⟨⟨(by rw [h]; exact (gt_2 226 rfl rfl)), (gt_2 17 rfl rfl), (gt_2 18 rfl rfl), (gt_1 3 rfl rfl), (show Cond.code MX2_betterThan.1 MX2_betterThan.2.1 MX2_betterThan.2.2.1 MX2_betterThan.2.2.2 ∈ GW from gt_2 19 rfl rfl)⟩, ⟨by decide, by decide, by decide +kernel⟩, Nat.le_of_ble_eq_true rfl⟩
theorem flX2_91 (M : MD) (h : M.1.cls = RX2) : FL M 91 4 7 := ⟨RX5, TX5, 9, rfl, by decide, gwc_X5, by rw [h]; exact (gt_1 61 rfl rfl)⟩
theorem cX2_94 (M : MD) (h : M.1.cls = RX2) : CV M 94 MX2_who 1 := ⟨⟨(by rw [h]; exact (gt_2 76 rfl rfl)), (gt_2 77 rfl rfl), (gt_2 78 rfl rfl), (gt_1 3 rfl rfl), (show Cond.code MX2_who.1 MX2_who.2.1 MX2_who.2.2.1 MX2_who.2.2.2 ∈ GW from gt_2 79 rfl rfl)⟩, ⟨by decide, by decide, by decide +kernel⟩, Nat.le_of_ble_eq_true rfl⟩
theorem flX3_11 (M : MD) (h : M.1.cls = RX3) : FL M 11 2 0 := ⟨RX3, TX3, 2, rfl, by decide, gwc_X3, by rw [h]; exact (gt_1 132 rfl rfl)⟩
theorem fpX3_11 (M : MD) (h : M.1.cls = RX3) (hi : M.1.name = "<init>") : FP M 11 2 0 (.array (.array .int)) := ⟨RX3, TX3, 2, tyX3, ⟨rfl, by decide, gwc_X3, by rw [h]; exact (gt_1 132 rfl rfl)⟩, tyX3_ok, nmX3, rfl, Or.inr ⟨rfl, hi, by rw [h]; rfl⟩⟩
theorem flX3_16 (M : MD) (h : M.1.cls = RX3) : FL M 16 2 1 := ⟨RX3, TX3, 2, rfl, by decide, gwc_X3, by rw [h]; exact (gt_1 133 rfl rfl)⟩
theorem fpX3_16 (M : MD) (h : M.1.cls = RX3) (hi : M.1.name = "<init>") : FP M 16 2 1 (.array (.array .int)) := ⟨RX3, TX3, 2, tyX3, ⟨rfl, by decide, gwc_X3, by rw [h]; exact (gt_1 133 rfl rfl)⟩, tyX3_ok, nmX3, rfl, Or.inr ⟨rfl, hi, by rw [h]; rfl⟩⟩
theorem cX3_19 (M : MD) (h : M.1.cls = RX3) : CS M 19 MX3_empty 1 := ⟨⟨(by rw [h]; exact (gt_2 192 rfl rfl)), (gt_2 193 rfl rfl), (gt_1 6 rfl rfl), (show Cond.code MX3_empty.1 MX3_empty.2.1 MX3_empty.2.2.1 MX3_empty.2.2.2 ∈ GW from gt_2 194 rfl rfl)⟩, ⟨by decide, by decide, by decide +kernel⟩, Nat.le_of_ble_eq_true rfl⟩
theorem cX3_23 (M : MD) (h : M.1.cls = RX3) : CV M 23 MX3_outHere 1 := ⟨⟨(by rw [h]; exact (gt_2 195 rfl rfl)), (gt_2 197 rfl rfl), (gt_s 5 rfl rfl), (gt_1 6 rfl rfl), (show Cond.code MX3_outHere.1 MX3_outHere.2.1 MX3_outHere.2.2.1 MX3_outHere.2.2.2 ∈ GW from gt_2 198 rfl rfl)⟩, ⟨by decide, by decide, by decide +kernel⟩, Nat.le_of_ble_eq_true rfl⟩
theorem cX3_27 (M : MD) (h : M.1.cls = RX3) : CV M 27 MX3_goOn 2 := ⟨⟨(by rw [h]; exact (gt_2 199 rfl rfl)), (gt_2 201 rfl rfl), (gt_s 6 rfl rfl), (gt_1 6 rfl rfl), (show Cond.code MX3_goOn.1 MX3_goOn.2.1 MX3_goOn.2.2.1 MX3_goOn.2.2.2 ∈ GW from gt_2 202 rfl rfl)⟩, ⟨by decide, by decide, by decide +kernel⟩, Nat.le_of_ble_eq_true rfl⟩
theorem flX4_9 (M : MD) (h : M.1.cls = RX4) : FL M 9 3 0 := ⟨RX4, TX4, 2, rfl, by decide, gwc_X4, by rw [h]; exact (gt_1 25 rfl rfl)⟩
theorem fpX4_9 (M : MD) (h : M.1.cls = RX4) (hi : M.1.name = "<init>") : FP M 9 3 0 (.array .int) := ⟨RX4, TX4, 2, tyX4, ⟨rfl, by decide, gwc_X4, by rw [h]; exact (gt_1 25 rfl rfl)⟩, tyX4_ok, nmX4, rfl, Or.inr ⟨rfl, hi, by rw [h]; rfl⟩⟩
theorem flX4_15 (M : MD) (h : M.1.cls = RX4) : FL M 15 3 1 := ⟨RX4, TX4, 2, rfl, by decide, gwc_X4, by rw [h]; exact (gt_1 26 rfl rfl)⟩
theorem fpX4_15 (M : MD) (h : M.1.cls = RX4) : FP M 15 3 1 .int := ⟨RX4, TX4, 2, tyX4, ⟨rfl, by decide, gwc_X4, by rw [h]; exact (gt_1 26 rfl rfl)⟩, tyX4_ok, nmX4, rfl, Or.inl rfl⟩
theorem cX4_19 (M : MD) (h : M.1.cls = RX4) : CS M 19 MX4_canStand 2 := ⟨⟨(by rw [h]; exact (gt_1 188 rfl rfl)), (gt_1 189 rfl rfl), (gt_1 2 rfl rfl), (show Cond.code MX4_canStand.1 MX4_canStand.2.1 MX4_canStand.2.2.1 MX4_canStand.2.2.2 ∈ GW from gt_1 190 rfl rfl)⟩, ⟨by decide, by decide, by decide +kernel⟩, Nat.le_of_ble_eq_true rfl⟩
theorem cX4_23 (M : MD) (h : M.1.cls = RX4) : CS M 23 MJ9_min_7cf53 2 := ⟨⟨(by rw [h]; exact (gt_1 203 rfl rfl)), (gt_1 204 rfl rfl), (gt_1 8 rfl rfl), (show Cond.code MJ9_min_7cf53.1 MJ9_min_7cf53.2.1 MJ9_min_7cf53.2.2.1 MJ9_min_7cf53.2.2.2 ∈ GW from gt_1 205 rfl rfl)⟩, ⟨by decide, by decide, by decide +kernel⟩, Nat.le_of_ble_eq_true rfl⟩
theorem cX4_29 (M : MD) (h : M.1.cls = RX4) : CV M 29 MX4_figureAt 1 := ⟨⟨(by rw [h]; exact (gt_1 210 rfl rfl)), (gt_1 212 rfl rfl), (gt_s 0 rfl rfl), (gt_1 2 rfl rfl), (show Cond.code MX4_figureAt.1 MX4_figureAt.2.1 MX4_figureAt.2.2.1 MX4_figureAt.2.2.2 ∈ GW from gt_1 213 rfl rfl)⟩, ⟨by decide, by decide, by decide +kernel⟩, Nat.le_of_ble_eq_true rfl⟩
theorem cX5_9 (M : MD) (h : M.1.cls = RX5) : CV M 9 MX5_start 2 := ⟨⟨(by rw [h]; exact (gt_1 47 rfl rfl)), (gt_1 48 rfl rfl), (gt_1 49 rfl rfl), (gt_1 4 rfl rfl), (show Cond.code MX5_start.1 MX5_start.2.1 MX5_start.2.2.1 MX5_start.2.2.2 ∈ GW from gt_1 50 rfl rfl)⟩, ⟨by decide, by decide, by decide +kernel⟩, Nat.le_of_ble_eq_true rfl⟩
theorem flX5_15 (M : MD) (h : M.1.cls = RX5) : FL M 15 4 0 := ⟨RX5, TX5, 9, rfl, by decide, gwc_X5, by rw [h]; exact (gt_1 51 rfl rfl)⟩
theorem fpX5_15 (M : MD) (h : M.1.cls = RX5) : FP M 15 4 0 .int := ⟨RX5, TX5, 9, tyX5, ⟨rfl, by decide, gwc_X5, by rw [h]; exact (gt_1 51 rfl rfl)⟩, tyX5_ok, nmX5, rfl, Or.inl rfl⟩
theorem flX5_19 (M : MD) (h : M.1.cls = RX5) : FL M 19 4 1 := ⟨RX5, TX5, 9, rfl, by decide, gwc_X5, by rw [h]; exact (gt_1 52 rfl rfl)⟩
theorem fpX5_19 (M : MD) (h : M.1.cls = RX5) : FP M 19 4 1 .int := ⟨RX5, TX5, 9, tyX5, ⟨rfl, by decide, gwc_X5, by rw [h]; exact (gt_1 52 rfl rfl)⟩, tyX5_ok, nmX5, rfl, Or.inl rfl⟩
theorem flX5_22 (M : MD) (h : M.1.cls = RX5) : FL M 22 4 2 := ⟨RX5, TX5, 9, rfl, by decide, gwc_X5, by rw [h]; exact (gt_1 53 rfl rfl)⟩
theorem fpX5_22 (M : MD) (h : M.1.cls = RX5) : FP M 22 4 2 .int := ⟨RX5, TX5, 9, tyX5, ⟨rfl, by decide, gwc_X5, by rw [h]; exact (gt_1 53 rfl rfl)⟩, tyX5_ok, nmX5, rfl, Or.inl rfl⟩
theorem flX5_25 (M : MD) (h : M.1.cls = RX5) : FL M 25 4 3 := ⟨RX5, TX5, 9, rfl, by decide, gwc_X5, by rw [h]; exact (gt_1 55 rfl rfl)⟩
theorem fpX5_25 (M : MD) (h : M.1.cls = RX5) : FP M 25 4 3 .int := ⟨RX5, TX5, 9, tyX5, ⟨rfl, by decide, gwc_X5, by rw [h]; exact (gt_1 55 rfl rfl)⟩, tyX5_ok, nmX5, rfl, Or.inl rfl⟩
theorem flX5_28 (M : MD) (h : M.1.cls = RX5) : FL M 28 4 4 := ⟨RX5, TX5, 9, rfl, by decide, gwc_X5, by rw [h]; exact (gt_1 57 rfl rfl)⟩
theorem fpX5_28 (M : MD) (h : M.1.cls = RX5) : FP M 28 4 4 .int := ⟨RX5, TX5, 9, tyX5, ⟨rfl, by decide, gwc_X5, by rw [h]; exact (gt_1 57 rfl rfl)⟩, tyX5_ok, nmX5, rfl, Or.inl rfl⟩
theorem flX5_31 (M : MD) (h : M.1.cls = RX5) : FL M 31 4 5 := ⟨RX5, TX5, 9, rfl, by decide, gwc_X5, by rw [h]; exact (gt_1 58 rfl rfl)⟩
theorem fpX5_31 (M : MD) (h : M.1.cls = RX5) : FP M 31 4 5 .int := ⟨RX5, TX5, 9, tyX5, ⟨rfl, by decide, gwc_X5, by rw [h]; exact (gt_1 58 rfl rfl)⟩, tyX5_ok, nmX5, rfl, Or.inl rfl⟩
theorem flX5_34 (M : MD) (h : M.1.cls = RX5) : FL M 34 4 6 := ⟨RX5, TX5, 9, rfl, by decide, gwc_X5, by rw [h]; exact (gt_1 59 rfl rfl)⟩
theorem fpX5_34 (M : MD) (h : M.1.cls = RX5) : FP M 34 4 6 .int := ⟨RX5, TX5, 9, tyX5, ⟨rfl, by decide, gwc_X5, by rw [h]; exact (gt_1 59 rfl rfl)⟩, tyX5_ok, nmX5, rfl, Or.inl rfl⟩
theorem flX5_37 (M : MD) (h : M.1.cls = RX5) : FL M 37 4 7 := ⟨RX5, TX5, 9, rfl, by decide, gwc_X5, by rw [h]; exact (gt_1 60 rfl rfl)⟩
theorem fpX5_37 (M : MD) (h : M.1.cls = RX5) : FP M 37 4 7 .int := ⟨RX5, TX5, 9, tyX5, ⟨rfl, by decide, gwc_X5, by rw [h]; exact (gt_1 60 rfl rfl)⟩, tyX5_ok, nmX5, rfl, Or.inl rfl⟩
theorem flX5_40 (M : MD) (h : M.1.cls = RX5) : FL M 40 4 8 := ⟨RX5, TX5, 9, rfl, by decide, gwc_X5, by rw [h]; exact (gt_1 62 rfl rfl)⟩
theorem fpX5_40 (M : MD) (h : M.1.cls = RX5) : FP M 40 4 8 .int := ⟨RX5, TX5, 9, tyX5, ⟨rfl, by decide, gwc_X5, by rw [h]; exact (gt_1 62 rfl rfl)⟩, tyX5_ok, nmX5, rfl, Or.inl rfl⟩
theorem cX5_43 (M : MD) (h : M.1.cls = RX5) : CS M 43 MJ9_min_7cf53 2 := ⟨⟨(by rw [h]; exact (gt_2 32 rfl rfl)), (gt_1 204 rfl rfl), (gt_1 8 rfl rfl), (show Cond.code MJ9_min_7cf53.1 MJ9_min_7cf53.2.1 MJ9_min_7cf53.2.2.1 MJ9_min_7cf53.2.2.2 ∈ GW from gt_1 205 rfl rfl)⟩, ⟨by decide, by decide, by decide +kernel⟩, Nat.le_of_ble_eq_true rfl⟩
theorem cX5_49 (M : MD) (h : M.1.cls = RX5) : CS M 49 MJ9_max_7cf53 2 := ⟨⟨(by rw [h]; exact (gt_2 33 rfl rfl)), (gt_2 34 rfl rfl), (gt_1 8 rfl rfl), (show Cond.code MJ9_max_7cf53.1 MJ9_max_7cf53.2.1 MJ9_max_7cf53.2.2.1 MJ9_max_7cf53.2.2.2 ∈ GW from gt_2 35 rfl rfl)⟩, ⟨by decide, by decide, by decide +kernel⟩, Nat.le_of_ble_eq_true rfl⟩
theorem cX6_11 (M : MD) (h : M.1.cls = RX6) : CIN M 11 MX4_init 0 := ⟨⟨⟨"UpWithSheaf", by rw [h]; exact List.mem_of_getElem? (i := 0) rfl⟩, (gt_1 22 rfl rfl), (gt_1 2 rfl rfl), (show Cond.code MX4_init.1 MX4_init.2.1 MX4_init.2.2.1 MX4_init.2.2.2 ∈ GW from gt_1 23 rfl rfl), rfl, rfl⟩, ⟨by decide, by decide, by decide +kernel⟩, Nat.le_of_ble_eq_true rfl⟩
theorem flX6_12 (M : MD) (h : M.1.cls = RX6) : FL M 12 5 0 := ⟨RX6, TX6, 9, rfl, by decide, gwc_X6, by rw [h]; exact (gt_1 140 rfl rfl)⟩
theorem fpX6_12 (M : MD) (h : M.1.cls = RX6) (hi : M.1.name = "<init>") : FP M 12 5 0 (.object "UpWithSheaf$Text") := ⟨RX6, TX6, 9, tyX6, ⟨rfl, by decide, gwc_X6, by rw [h]; exact (gt_1 140 rfl rfl)⟩, tyX6_ok, nmX6, rfl, Or.inr ⟨rfl, hi, by rw [h]; rfl⟩⟩
theorem cX6_18 (M : MD) (h : M.1.cls = RX6) : CI M 18 MX2_init 0 := ⟨⟨(by rw [h]; exact (gt_1 36 rfl rfl)), (gt_1 37 rfl rfl), (gt_1 3 rfl rfl), (show Cond.code MX2_init.1 MX2_init.2.1 MX2_init.2.2.1 MX2_init.2.2.2 ∈ GW from gt_1 38 rfl rfl), rfl, rfl⟩, ⟨by decide, by decide, by decide +kernel⟩, Nat.le_of_ble_eq_true rfl⟩
theorem flX6_19 (M : MD) (h : M.1.cls = RX6) : FL M 19 5 1 := ⟨RX6, TX6, 9, rfl, by decide, gwc_X6, by rw [h]; exact (gt_1 141 rfl rfl)⟩
theorem fpX6_19 (M : MD) (h : M.1.cls = RX6) (hi : M.1.name = "<init>") : FP M 19 5 1 (.object "UpWithSheaf$Contest") := ⟨RX6, TX6, 9, tyX6, ⟨rfl, by decide, gwc_X6, by rw [h]; exact (gt_1 141 rfl rfl)⟩, tyX6_ok, nmX6, rfl, Or.inr ⟨rfl, hi, by rw [h]; rfl⟩⟩
theorem flX6_23 (M : MD) (h : M.1.cls = RX6) : FL M 23 5 2 := ⟨RX6, TX6, 9, rfl, by decide, gwc_X6, by rw [h]; exact (gt_1 142 rfl rfl)⟩
theorem fpX6_23 (M : MD) (h : M.1.cls = RX6) (hi : M.1.name = "<init>") : FP M 23 5 2 (.object "UpWithSheaf$Contest") := ⟨RX6, TX6, 9, tyX6, ⟨rfl, by decide, gwc_X6, by rw [h]; exact (gt_1 142 rfl rfl)⟩, tyX6_ok, nmX6, rfl, Or.inr ⟨rfl, hi, by rw [h]; rfl⟩⟩
theorem cX6_28 (M : MD) (h : M.1.cls = RX6) : CI M 28 MX0_init 0 := ⟨⟨(by rw [h]; exact (gt_1 104 rfl rfl)), (gt_1 105 rfl rfl), (gt_1 5 rfl rfl), (show Cond.code MX0_init.1 MX0_init.2.1 MX0_init.2.2.1 MX0_init.2.2.2 ∈ GW from gt_1 106 rfl rfl), rfl, rfl⟩, ⟨by decide, by decide, by decide +kernel⟩, Nat.le_of_ble_eq_true rfl⟩
theorem flX6_29 (M : MD) (h : M.1.cls = RX6) : FL M 29 5 3 := ⟨RX6, TX6, 9, rfl, by decide, gwc_X6, by rw [h]; exact (gt_1 143 rfl rfl)⟩
theorem fpX6_29 (M : MD) (h : M.1.cls = RX6) (hi : M.1.name = "<init>") : FP M 29 5 3 (.object "UpWithSheaf$Acts") := ⟨RX6, TX6, 9, tyX6, ⟨rfl, by decide, gwc_X6, by rw [h]; exact (gt_1 143 rfl rfl)⟩, tyX6_ok, nmX6, rfl, Or.inr ⟨rfl, hi, by rw [h]; rfl⟩⟩
theorem flX6_33 (M : MD) (h : M.1.cls = RX6) : FL M 33 5 4 := ⟨RX6, TX6, 9, rfl, by decide, gwc_X6, by rw [h]; exact (gt_1 144 rfl rfl)⟩
theorem fpX6_33 (M : MD) (h : M.1.cls = RX6) (hi : M.1.name = "<init>") : FP M 33 5 4 (.array (.object "UpWithSheaf$Contest")) := ⟨RX6, TX6, 9, tyX6, ⟨rfl, by decide, gwc_X6, by rw [h]; exact (gt_1 144 rfl rfl)⟩, tyX6_ok, nmX6, rfl, Or.inr ⟨rfl, hi, by rw [h]; rfl⟩⟩
theorem flX6_37 (M : MD) (h : M.1.cls = RX6) : FL M 37 5 5 := ⟨RX6, TX6, 9, rfl, by decide, gwc_X6, by rw [h]; exact (gt_1 145 rfl rfl)⟩
theorem fpX6_37 (M : MD) (h : M.1.cls = RX6) (hi : M.1.name = "<init>") : FP M 37 5 5 (.array .boolean) := ⟨RX6, TX6, 9, tyX6, ⟨rfl, by decide, gwc_X6, by rw [h]; exact (gt_1 145 rfl rfl)⟩, tyX6_ok, nmX6, rfl, Or.inr ⟨rfl, hi, by rw [h]; rfl⟩⟩
theorem flX6_43 (M : MD) (h : M.1.cls = RX6) : FL M 43 5 6 := ⟨RX6, TX6, 9, rfl, by decide, gwc_X6, by rw [h]; exact (gt_1 146 rfl rfl)⟩
theorem fpX6_43 (M : MD) (h : M.1.cls = RX6) (hi : M.1.name = "<init>") : FP M 43 5 6 (.array (.object "UpWithSheaf$Thrower")) := ⟨RX6, TX6, 9, tyX6, ⟨rfl, by decide, gwc_X6, by rw [h]; exact (gt_1 146 rfl rfl)⟩, tyX6_ok, nmX6, rfl, Or.inr ⟨rfl, hi, by rw [h]; rfl⟩⟩
theorem cX6_47 (M : MD) (h : M.1.cls = RX6) : CI M 47 MX5_init 0 := ⟨⟨(by rw [h]; exact (gt_1 123 rfl rfl)), (gt_1 44 rfl rfl), (gt_1 4 rfl rfl), (show Cond.code MX5_init.1 MX5_init.2.1 MX5_init.2.2.1 MX5_init.2.2.2 ∈ GW from gt_1 45 rfl rfl), rfl, rfl⟩, ⟨by decide, by decide, by decide +kernel⟩, Nat.le_of_ble_eq_true rfl⟩
theorem cX6_50 (M : MD) (h : M.1.cls = RX6) : CIN M 50 MX3_init 0 := ⟨⟨⟨"UpWithSheaf", by rw [h]; exact List.mem_of_getElem? (i := 1) rfl⟩, (gt_1 127 rfl rfl), (gt_1 6 rfl rfl), (show Cond.code MX3_init.1 MX3_init.2.1 MX3_init.2.2.1 MX3_init.2.2.2 ∈ GW from gt_1 128 rfl rfl), rfl, rfl⟩, ⟨by decide, by decide, by decide +kernel⟩, Nat.le_of_ble_eq_true rfl⟩
theorem flX6_51 (M : MD) (h : M.1.cls = RX6) : FL M 51 5 7 := ⟨RX6, TX6, 9, rfl, by decide, gwc_X6, by rw [h]; exact (gt_1 147 rfl rfl)⟩
theorem fpX6_51 (M : MD) (h : M.1.cls = RX6) (hi : M.1.name = "<init>") : FP M 51 5 7 (.object "UpWithSheaf$Sheets") := ⟨RX6, TX6, 9, tyX6, ⟨rfl, by decide, gwc_X6, by rw [h]; exact (gt_1 147 rfl rfl)⟩, tyX6_ok, nmX6, rfl, Or.inr ⟨rfl, hi, by rw [h]; rfl⟩⟩
theorem flX6_55 (M : MD) (h : M.1.cls = RX6) : FL M 55 5 8 := ⟨RX6, TX6, 9, rfl, by decide, gwc_X6, by rw [h]; exact (gt_1 148 rfl rfl)⟩
theorem fpX6_55 (M : MD) (h : M.1.cls = RX6) : FP M 55 5 8 .long := ⟨RX6, TX6, 9, tyX6, ⟨rfl, by decide, gwc_X6, by rw [h]; exact (gt_1 148 rfl rfl)⟩, tyX6_ok, nmX6, rfl, Or.inl rfl⟩
theorem flX6_59 (M : MD) (h : M.1.cls = RX6) : FL M 59 3 1 := ⟨RX4, TX4, 2, rfl, by decide, gwc_X4, by rw [h]; exact (gt_1 27 rfl rfl)⟩
theorem cX6_63 (M : MD) (h : M.1.cls = RX6) : CV M 63 MX4_append 2 := ⟨⟨(by rw [h]; exact (gt_1 172 rfl rfl)), (gt_1 173 rfl rfl), (gt_1 174 rfl rfl), (gt_1 2 rfl rfl), (show Cond.code MX4_append.1 MX4_append.2.1 MX4_append.2.2.1 MX4_append.2.2.2 ∈ GW from gt_1 175 rfl rfl)⟩, ⟨by decide, by decide, by decide +kernel⟩, Nat.le_of_ble_eq_true rfl⟩
theorem fpX6_59 (M : MD) (h : M.1.cls = RX6) : FP M 59 3 1 .int := ⟨RX4, TX4, 2, tyX4, ⟨rfl, by decide, gwc_X4, by rw [h]; exact (gt_1 27 rfl rfl)⟩, tyX4_ok, nmX4, rfl, Or.inl rfl⟩
theorem cX6_67 (M : MD) (h : M.1.cls = RX6) : CV M 67 MX4_firstFault 0 := ⟨⟨(by rw [h]; exact (gt_1 184 rfl rfl)), (gt_1 185 rfl rfl), (gt_1 186 rfl rfl), (gt_1 2 rfl rfl), (show Cond.code MX4_firstFault.1 MX4_firstFault.2.1 MX4_firstFault.2.2.1 MX4_firstFault.2.2.2 ∈ GW from gt_1 187 rfl rfl)⟩, ⟨by decide, by decide, by decide +kernel⟩, Nat.le_of_ble_eq_true rfl⟩
theorem cX6_71 (M : MD) (h : M.1.cls = RX6) : CV M 71 MX2_startFrom 1 := ⟨⟨(by rw [h]; exact (gt_1 195 rfl rfl)), (gt_1 196 rfl rfl), (gt_1 197 rfl rfl), (gt_1 3 rfl rfl), (show Cond.code MX2_startFrom.1 MX2_startFrom.2.1 MX2_startFrom.2.2.1 MX2_startFrom.2.2.2 ∈ GW from gt_1 198 rfl rfl)⟩, ⟨by decide, by decide, by decide +kernel⟩, Nat.le_of_ble_eq_true rfl⟩
theorem cX6_75 (M : MD) (h : M.1.cls = RX6) : CV M 75 MX0_forget 0 := ⟨⟨(by rw [h]; exact (gt_1 235 rfl rfl)), (gt_1 236 rfl rfl), (gt_1 237 rfl rfl), (gt_1 5 rfl rfl), (show Cond.code MX0_forget.1 MX0_forget.2.1 MX0_forget.2.2.1 MX0_forget.2.2.2 ∈ GW from gt_1 238 rfl rfl)⟩, ⟨by decide, by decide, by decide +kernel⟩, Nat.le_of_ble_eq_true rfl⟩
theorem flX6_78 (M : MD) (h : M.1.cls = RX6) : FL M 78 1 1 := ⟨RX2, TX2, 4, rfl, by decide, gwc_X2, by rw [h]; exact (gt_1 86 rfl rfl)⟩
theorem cX6_81 (M : MD) (h : M.1.cls = RX6) : CV M 81 MX2_knows 1 := ⟨⟨(by rw [h]; exact (gt_2 3 rfl rfl)), (gt_1 228 rfl rfl), (gt_1 229 rfl rfl), (gt_1 3 rfl rfl), (show Cond.code MX2_knows.1 MX2_knows.2.1 MX2_knows.2.2.1 MX2_knows.2.2.2 ∈ GW from gt_1 230 rfl rfl)⟩, ⟨by decide, by decide, by decide +kernel⟩, Nat.le_of_ble_eq_true rfl⟩
theorem flX6_85 (M : MD) (h : M.1.cls = RX6) : FL M 85 1 0 := ⟨RX2, TX2, 4, rfl, by decide, gwc_X2, by rw [h]; exact (gt_1 83 rfl rfl)⟩
theorem cX6_88 (M : MD) (h : M.1.cls = RX6) : CV M 88 MX5_told 1 := ⟨⟨(by rw [h]; exact (gt_2 4 rfl rfl)), (gt_2 5 rfl rfl), (gt_2 6 rfl rfl), (gt_1 4 rfl rfl), (show Cond.code MX5_told.1 MX5_told.2.1 MX5_told.2.2.1 MX5_told.2.2.2 ∈ GW from gt_2 7 rfl rfl)⟩, ⟨by decide, by decide, by decide +kernel⟩, Nat.le_of_ble_eq_true rfl⟩
theorem flX6_92 (M : MD) (h : M.1.cls = RX6) : FL M 92 1 3 := ⟨RX2, TX2, 4, rfl, by decide, gwc_X2, by rw [h]; exact (gt_1 92 rfl rfl)⟩
theorem cX6_95 (M : MD) (h : M.1.cls = RX6) : CV M 95 MX2_betterThan 1 := ⟨⟨(by rw [h]; exact (gt_2 16 rfl rfl)), (gt_2 17 rfl rfl), (gt_2 18 rfl rfl), (gt_1 3 rfl rfl), (show Cond.code MX2_betterThan.1 MX2_betterThan.2.1 MX2_betterThan.2.2.1 MX2_betterThan.2.2.2 ∈ GW from gt_2 19 rfl rfl)⟩, ⟨by decide, by decide, by decide +kernel⟩, Nat.le_of_ble_eq_true rfl⟩
theorem cX6_99 (M : MD) (h : M.1.cls = RX6) : CV M 99 MX5_oddsAt 2 := ⟨⟨(by rw [h]; exact (gt_2 28 rfl rfl)), (gt_2 29 rfl rfl), (gt_2 30 rfl rfl), (gt_1 4 rfl rfl), (show Cond.code MX5_oddsAt.1 MX5_oddsAt.2.1 MX5_oddsAt.2.2.1 MX5_oddsAt.2.2.2 ∈ GW from gt_2 31 rfl rfl)⟩, ⟨by decide, by decide, by decide +kernel⟩, Nat.le_of_ble_eq_true rfl⟩
theorem cX6_103 (M : MD) (h : M.1.cls = RX6) : CV M 103 MX6_act 1 := ⟨⟨(by rw [h]; exact (gt_2 40 rfl rfl)), (gt_2 42 rfl rfl), (gt_s 2 rfl rfl), (gt_1 1 rfl rfl), (show Cond.code MX6_act.1 MX6_act.2.1 MX6_act.2.2.1 MX6_act.2.2.2 ∈ GW from gt_2 43 rfl rfl)⟩, ⟨by decide, by decide, by decide +kernel⟩, Nat.le_of_ble_eq_true rfl⟩
theorem cX6_106 (M : MD) (h : M.1.cls = RX6) : CV M 106 MX2_isEnded 0 := ⟨⟨(by rw [h]; exact (gt_2 44 rfl rfl)), (gt_2 45 rfl rfl), (gt_2 46 rfl rfl), (gt_1 3 rfl rfl), (show Cond.code MX2_isEnded.1 MX2_isEnded.2.1 MX2_isEnded.2.2.1 MX2_isEnded.2.2.2 ∈ GW from gt_2 47 rfl rfl)⟩, ⟨by decide, by decide, by decide +kernel⟩, Nat.le_of_ble_eq_true rfl⟩
theorem cX6_110 (M : MD) (h : M.1.cls = RX6) : CV M 110 MX0_remember 1 := ⟨⟨(by rw [h]; exact (gt_2 48 rfl rfl)), (gt_2 49 rfl rfl), (gt_2 50 rfl rfl), (gt_1 5 rfl rfl), (show Cond.code MX0_remember.1 MX0_remember.2.1 MX0_remember.2.2.1 MX0_remember.2.2.2 ∈ GW from gt_2 51 rfl rfl)⟩, ⟨by decide, by decide, by decide +kernel⟩, Nat.le_of_ble_eq_true rfl⟩
theorem cX6_114 (M : MD) (h : M.1.cls = RX6) : CV M 114 MX2_act 1 := ⟨⟨(by rw [h]; exact (gt_2 60 rfl rfl)), (gt_2 61 rfl rfl), (gt_2 62 rfl rfl), (gt_1 3 rfl rfl), (show Cond.code MX2_act.1 MX2_act.2.1 MX2_act.2.2.1 MX2_act.2.2.2 ∈ GW from gt_2 63 rfl rfl)⟩, ⟨by decide, by decide, by decide +kernel⟩, Nat.le_of_ble_eq_true rfl⟩
theorem flX6_117 (M : MD) (h : M.1.cls = RX6) : FL M 117 0 1 := ⟨RX0, TX0, 3, rfl, by decide, gwc_X0, by rw [h]; exact (gt_1 113 rfl rfl)⟩
theorem cX6_118 (M : MD) (h : M.1.cls = RX6) : CV M 118 MX0_takeBack 1 := ⟨⟨(by rw [h]; exact (gt_2 96 rfl rfl)), (gt_2 97 rfl rfl), (gt_2 98 rfl rfl), (gt_1 5 rfl rfl), (show Cond.code MX0_takeBack.1 MX0_takeBack.2.1 MX0_takeBack.2.2.1 MX0_takeBack.2.2.2 ∈ GW from gt_2 99 rfl rfl)⟩, ⟨by decide, by decide, by decide +kernel⟩, Nat.le_of_ble_eq_true rfl⟩
theorem cX6_125 (M : MD) (h : M.1.cls = RX6) : CV M 125 MX2_copyFrom 1 := ⟨⟨(by rw [h]; exact (gt_2 106 rfl rfl)), (gt_2 53 rfl rfl), (gt_2 54 rfl rfl), (gt_1 3 rfl rfl), (show Cond.code MX2_copyFrom.1 MX2_copyFrom.2.1 MX2_copyFrom.2.2.1 MX2_copyFrom.2.2.2 ∈ GW from gt_2 55 rfl rfl)⟩, ⟨by decide, by decide, by decide +kernel⟩, Nat.le_of_ble_eq_true rfl⟩
theorem cX6_128 (M : MD) (h : M.1.cls = RX6) : CS M 128 MX6_figureOf 2 := ⟨⟨(by rw [h]; exact (gt_2 107 rfl rfl)), (gt_2 108 rfl rfl), (gt_1 1 rfl rfl), (show Cond.code MX6_figureOf.1 MX6_figureOf.2.1 MX6_figureOf.2.2.1 MX6_figureOf.2.2.2 ∈ GW from gt_2 109 rfl rfl)⟩, ⟨by decide, by decide, by decide +kernel⟩, Nat.le_of_ble_eq_true rfl⟩
theorem cX6_131 (M : MD) (h : M.1.cls = RX6) : CV M 131 MX5_isOut 0 := ⟨⟨(by rw [h]; exact (gt_2 114 rfl rfl)), (gt_2 115 rfl rfl), (gt_2 116 rfl rfl), (gt_1 4 rfl rfl), (show Cond.code MX5_isOut.1 MX5_isOut.2.1 MX5_isOut.2.2.1 MX5_isOut.2.2.2 ∈ GW from gt_2 117 rfl rfl)⟩, ⟨by decide, by decide, by decide +kernel⟩, Nat.le_of_ble_eq_true rfl⟩
theorem cX6_134 (M : MD) (h : M.1.cls = RX6) : CS M 134 MX1_wholeOf 1 := ⟨⟨(by rw [h]; exact (gt_2 118 rfl rfl)), (gt_2 119 rfl rfl), (gt_1 9 rfl rfl), (show Cond.code MX1_wholeOf.1 MX1_wholeOf.2.1 MX1_wholeOf.2.2.1 MX1_wholeOf.2.2.2 ∈ GW from gt_2 120 rfl rfl)⟩, ⟨by decide, by decide, by decide +kernel⟩, Nat.le_of_ble_eq_true rfl⟩
theorem flX6_140 (M : MD) (h : M.1.cls = RX6) : FL M 140 1 2 := ⟨RX2, TX2, 4, rfl, by decide, gwc_X2, by rw [h]; exact (gt_1 90 rfl rfl)⟩
theorem cX6_143 (M : MD) (h : M.1.cls = RX6) : CS M 143 MX1_failing 2 := ⟨⟨(by rw [h]; exact (gt_2 122 rfl rfl)), (gt_2 123 rfl rfl), (gt_1 9 rfl rfl), (show Cond.code MX1_failing.1 MX1_failing.2.1 MX1_failing.2.2.1 MX1_failing.2.2.2 ∈ GW from gt_2 124 rfl rfl)⟩, ⟨by decide, by decide, by decide +kernel⟩, Nat.le_of_ble_eq_true rfl⟩
theorem cX6_147 (M : MD) (h : M.1.cls = RX6) : CS M 147 MX6_leastTerms 3 := ⟨⟨(by rw [h]; exact (gt_2 126 rfl rfl)), (gt_2 127 rfl rfl), (gt_1 1 rfl rfl), (show Cond.code MX6_leastTerms.1 MX6_leastTerms.2.1 MX6_leastTerms.2.2.1 MX6_leastTerms.2.2.2 ∈ GW from gt_2 128 rfl rfl)⟩, ⟨by decide, by decide, by decide +kernel⟩, Nat.le_of_ble_eq_true rfl⟩
theorem cX6_151 (M : MD) (h : M.1.cls = RX6) : CV M 151 MX6_refusalAhead 2 := ⟨⟨(by rw [h]; exact (gt_2 136 rfl rfl)), (gt_2 138 rfl rfl), (gt_s 4 rfl rfl), (gt_1 1 rfl rfl), (show Cond.code MX6_refusalAhead.1 MX6_refusalAhead.2.1 MX6_refusalAhead.2.2.1 MX6_refusalAhead.2.2.2 ∈ GW from gt_2 139 rfl rfl)⟩, ⟨by decide, by decide, by decide +kernel⟩, Nat.le_of_ble_eq_true rfl⟩
theorem flX6_154 (M : MD) (h : M.1.cls = RX6) : FL M 154 4 3 := ⟨RX5, TX5, 9, rfl, by decide, gwc_X5, by rw [h]; exact (gt_1 56 rfl rfl)⟩
theorem cX6_157 (M : MD) (h : M.1.cls = RX6) : CSN M 157 MX1_greatest 7 := ⟨⟨⟨"UpWithSheaf", by rw [h]; exact List.mem_of_getElem? (i := 2) rfl⟩, (gt_2 141 rfl rfl), (gt_1 9 rfl rfl), (show Cond.code MX1_greatest.1 MX1_greatest.2.1 MX1_greatest.2.2.1 MX1_greatest.2.2.2 ∈ GW from gt_2 142 rfl rfl)⟩, ⟨by decide, by decide, by decide +kernel⟩, Nat.le_of_ble_eq_true rfl⟩
theorem cX6_161 (M : MD) (h : M.1.cls = RX6) : CSN M 161 MX1_byTrying 7 := ⟨⟨⟨"UpWithSheaf", by rw [h]; exact List.mem_of_getElem? (i := 3) rfl⟩, (gt_2 148 rfl rfl), (gt_1 9 rfl rfl), (show Cond.code MX1_byTrying.1 MX1_byTrying.2.1 MX1_byTrying.2.2.1 MX1_byTrying.2.2.2 ∈ GW from gt_2 149 rfl rfl)⟩, ⟨by decide, by decide, by decide +kernel⟩, Nat.le_of_ble_eq_true rfl⟩
theorem cX6_164 (M : MD) (h : M.1.cls = RX6) : CSN M 164 MX1_bySparing 7 := ⟨⟨⟨"UpWithSheaf", by rw [h]; exact List.mem_of_getElem? (i := 4) rfl⟩, (gt_2 152 rfl rfl), (gt_1 9 rfl rfl), (show Cond.code MX1_bySparing.1 MX1_bySparing.2.1 MX1_bySparing.2.2.1 MX1_bySparing.2.2.2 ∈ GW from gt_2 153 rfl rfl)⟩, ⟨by decide, by decide, by decide +kernel⟩, Nat.le_of_ble_eq_true rfl⟩
theorem cX6_167 (M : MD) (h : M.1.cls = RX6) : CV M 167 MX5_copyFrom 1 := ⟨⟨(by rw [h]; exact (gt_2 167 rfl rfl)), (gt_2 57 rfl rfl), (gt_2 58 rfl rfl), (gt_1 4 rfl rfl), (show Cond.code MX5_copyFrom.1 MX5_copyFrom.2.1 MX5_copyFrom.2.2.1 MX5_copyFrom.2.2.2 ∈ GW from gt_2 59 rfl rfl)⟩, ⟨by decide, by decide, by decide +kernel⟩, Nat.le_of_ble_eq_true rfl⟩
theorem cX6_170 (M : MD) (h : M.1.cls = RX6) : CSN M 170 MX1_unbeaten 6 := ⟨⟨⟨"UpWithSheaf", by rw [h]; exact List.mem_of_getElem? (i := 5) rfl⟩, (gt_2 169 rfl rfl), (gt_1 9 rfl rfl), (show Cond.code MX1_unbeaten.1 MX1_unbeaten.2.1 MX1_unbeaten.2.2.1 MX1_unbeaten.2.2.2 ∈ GW from gt_2 170 rfl rfl)⟩, ⟨by decide, by decide, by decide +kernel⟩, Nat.le_of_ble_eq_true rfl⟩
theorem cX6_174 (M : MD) (h : M.1.cls = RX6) : CS M 174 MX6_commonDivisor 2 := ⟨⟨(by rw [h]; exact (gt_2 129 rfl rfl)), (gt_2 130 rfl rfl), (gt_1 1 rfl rfl), (show Cond.code MX6_commonDivisor.1 MX6_commonDivisor.2.1 MX6_commonDivisor.2.2.1 MX6_commonDivisor.2.2.2 ∈ GW from gt_2 131 rfl rfl)⟩, ⟨by decide, by decide, by decide +kernel⟩, Nat.le_of_ble_eq_true rfl⟩
theorem cX6_178 (M : MD) (h : M.1.cls = RX6) : CV M 178 MX3_such 3 := ⟨⟨(by rw [h]; exact (gt_2 188 rfl rfl)), (gt_2 189 rfl rfl), (gt_2 190 rfl rfl), (gt_1 6 rfl rfl), (show Cond.code MX3_such.1 MX3_such.2.1 MX3_such.2.2.1 MX3_such.2.2.2 ∈ GW from gt_2 191 rfl rfl)⟩, ⟨by decide, by decide, by decide +kernel⟩, Nat.le_of_ble_eq_true rfl⟩
theorem cX6_188 (M : MD) (h : M.1.cls = RX6) : CV M 188 MX2_oddsOfTurn 0 := ⟨⟨(by rw [h]; exact (gt_2 217 rfl rfl)), (gt_2 218 rfl rfl), (gt_2 219 rfl rfl), (gt_1 3 rfl rfl), (show Cond.code MX2_oddsOfTurn.1 MX2_oddsOfTurn.2.1 MX2_oddsOfTurn.2.2.1 MX2_oddsOfTurn.2.2.2 ∈ GW from gt_2 220 rfl rfl)⟩, ⟨by decide, by decide, by decide +kernel⟩, Nat.le_of_ble_eq_true rfl⟩
theorem cX6_191 (M : MD) (h : M.1.cls = RX6) : CV M 191 MX2_leaders 0 := ⟨⟨(by rw [h]; exact (gt_2 222 rfl rfl)), (gt_2 223 rfl rfl), (gt_2 224 rfl rfl), (gt_1 3 rfl rfl), (show Cond.code MX2_leaders.1 MX2_leaders.2.1 MX2_leaders.2.2.1 MX2_leaders.2.2.2 ∈ GW from gt_2 225 rfl rfl)⟩, ⟨by decide, by decide, by decide +kernel⟩, Nat.le_of_ble_eq_true rfl⟩
theorem cX6_194 (M : MD) (h : M.1.cls = RX6) : CV M 194 MX2_notOut 0 := ⟨⟨(by rw [h]; exact (gt_2 239 rfl rfl)), (gt_2 73 rfl rfl), (gt_2 74 rfl rfl), (gt_1 3 rfl rfl), (show Cond.code MX2_notOut.1 MX2_notOut.2.1 MX2_notOut.2.2.1 MX2_notOut.2.2.2 ∈ GW from gt_2 75 rfl rfl)⟩, ⟨by decide, by decide, by decide +kernel⟩, Nat.le_of_ble_eq_true rfl⟩
theorem cX6_197 (M : MD) (h : M.1.cls = RX6) : CV M 197 MX2_who 1 := ⟨⟨(by rw [h]; exact (gt_3 0 rfl rfl)), (gt_2 77 rfl rfl), (gt_2 78 rfl rfl), (gt_1 3 rfl rfl), (show Cond.code MX2_who.1 MX2_who.2.1 MX2_who.2.2.1 MX2_who.2.2.2 ∈ GW from gt_2 79 rfl rfl)⟩, ⟨by decide, by decide, by decide +kernel⟩, Nat.le_of_ble_eq_true rfl⟩
theorem flX7_7 (M : MD) (h : M.1.cls = RX7) : FL M 7 6 1 := ⟨RX7, TX7, 17, rfl, by decide, gwc_X7, by rw [h]; exact (gt_3 8 rfl rfl)⟩
theorem fpX7_7 (M : MD) (h : M.1.cls = RX7) (hi : M.1.name = "<init>") : FP M 7 6 1 (.array .int) := ⟨RX7, TX7, 17, tyX7, ⟨rfl, by decide, gwc_X7, by rw [h]; exact (gt_3 8 rfl rfl)⟩, tyX7_ok, nmX7, rfl, Or.inr ⟨rfl, hi, by rw [h]; rfl⟩⟩
theorem flX7_13 (M : MD) (h : M.1.cls = RX7) : FL M 13 6 2 := ⟨RX7, TX7, 17, rfl, by decide, gwc_X7, by rw [h]; exact (gt_3 9 rfl rfl)⟩
theorem fpX7_13 (M : MD) (h : M.1.cls = RX7) (hi : M.1.name = "<init>") : FP M 13 6 2 (.array .int) := ⟨RX7, TX7, 17, tyX7, ⟨rfl, by decide, gwc_X7, by rw [h]; exact (gt_3 9 rfl rfl)⟩, tyX7_ok, nmX7, rfl, Or.inr ⟨rfl, hi, by rw [h]; rfl⟩⟩
theorem flX7_16 (M : MD) (h : M.1.cls = RX7) : FL M 16 6 3 := ⟨RX7, TX7, 17, rfl, by decide, gwc_X7, by rw [h]; exact (gt_3 10 rfl rfl)⟩
theorem fpX7_16 (M : MD) (h : M.1.cls = RX7) (hi : M.1.name = "<init>") : FP M 16 6 3 (.array .int) := ⟨RX7, TX7, 17, tyX7, ⟨rfl, by decide, gwc_X7, by rw [h]; exact (gt_3 10 rfl rfl)⟩, tyX7_ok, nmX7, rfl, Or.inr ⟨rfl, hi, by rw [h]; rfl⟩⟩
theorem flX7_19 (M : MD) (h : M.1.cls = RX7) : FL M 19 6 5 := ⟨RX7, TX7, 17, rfl, by decide, gwc_X7, by rw [h]; exact (gt_3 12 rfl rfl)⟩
theorem fpX7_19 (M : MD) (h : M.1.cls = RX7) (hi : M.1.name = "<init>") : FP M 19 6 5 (.array .int) := ⟨RX7, TX7, 17, tyX7, ⟨rfl, by decide, gwc_X7, by rw [h]; exact (gt_3 12 rfl rfl)⟩, tyX7_ok, nmX7, rfl, Or.inr ⟨rfl, hi, by rw [h]; rfl⟩⟩
theorem flX7_22 (M : MD) (h : M.1.cls = RX7) : FL M 22 6 8 := ⟨RX7, TX7, 17, rfl, by decide, gwc_X7, by rw [h]; exact (gt_3 15 rfl rfl)⟩
theorem fpX7_22 (M : MD) (h : M.1.cls = RX7) (hi : M.1.name = "<init>") : FP M 22 6 8 (.array .int) := ⟨RX7, TX7, 17, tyX7, ⟨rfl, by decide, gwc_X7, by rw [h]; exact (gt_3 15 rfl rfl)⟩, tyX7_ok, nmX7, rfl, Or.inr ⟨rfl, hi, by rw [h]; rfl⟩⟩
theorem flX7_25 (M : MD) (h : M.1.cls = RX7) : FL M 25 6 9 := ⟨RX7, TX7, 17, rfl, by decide, gwc_X7, by rw [h]; exact (gt_3 16 rfl rfl)⟩
theorem fpX7_25 (M : MD) (h : M.1.cls = RX7) (hi : M.1.name = "<init>") : FP M 25 6 9 (.array .long) := ⟨RX7, TX7, 17, tyX7, ⟨rfl, by decide, gwc_X7, by rw [h]; exact (gt_3 16 rfl rfl)⟩, tyX7_ok, nmX7, rfl, Or.inr ⟨rfl, hi, by rw [h]; rfl⟩⟩
theorem flX7_29 (M : MD) (h : M.1.cls = RX7) : FL M 29 6 12 := ⟨RX7, TX7, 17, rfl, by decide, gwc_X7, by rw [h]; exact (gt_3 19 rfl rfl)⟩
theorem fpX7_29 (M : MD) (h : M.1.cls = RX7) (hi : M.1.name = "<init>") : FP M 29 6 12 (.array .int) := ⟨RX7, TX7, 17, tyX7, ⟨rfl, by decide, gwc_X7, by rw [h]; exact (gt_3 19 rfl rfl)⟩, tyX7_ok, nmX7, rfl, Or.inr ⟨rfl, hi, by rw [h]; rfl⟩⟩
theorem flX7_32 (M : MD) (h : M.1.cls = RX7) : FL M 32 6 13 := ⟨RX7, TX7, 17, rfl, by decide, gwc_X7, by rw [h]; exact (gt_3 20 rfl rfl)⟩
theorem fpX7_32 (M : MD) (h : M.1.cls = RX7) (hi : M.1.name = "<init>") : FP M 32 6 13 (.array .int) := ⟨RX7, TX7, 17, tyX7, ⟨rfl, by decide, gwc_X7, by rw [h]; exact (gt_3 20 rfl rfl)⟩, tyX7_ok, nmX7, rfl, Or.inr ⟨rfl, hi, by rw [h]; rfl⟩⟩
theorem flX7_35 (M : MD) (h : M.1.cls = RX7) : FL M 35 6 15 := ⟨RX7, TX7, 17, rfl, by decide, gwc_X7, by rw [h]; exact (gt_3 22 rfl rfl)⟩
theorem fpX7_35 (M : MD) (h : M.1.cls = RX7) (hi : M.1.name = "<init>") : FP M 35 6 15 (.array .boolean) := ⟨RX7, TX7, 17, tyX7, ⟨rfl, by decide, gwc_X7, by rw [h]; exact (gt_3 22 rfl rfl)⟩, tyX7_ok, nmX7, rfl, Or.inr ⟨rfl, hi, by rw [h]; rfl⟩⟩
theorem flX7_39 (M : MD) (h : M.1.cls = RX7) : FL M 39 6 16 := ⟨RX7, TX7, 17, rfl, by decide, gwc_X7, by rw [h]; exact (gt_3 23 rfl rfl)⟩
theorem fpX7_39 (M : MD) (h : M.1.cls = RX7) (hi : M.1.name = "<init>") : FP M 39 6 16 (.array .int) := ⟨RX7, TX7, 17, tyX7, ⟨rfl, by decide, gwc_X7, by rw [h]; exact (gt_3 23 rfl rfl)⟩, tyX7_ok, nmX7, rfl, Or.inr ⟨rfl, hi, by rw [h]; rfl⟩⟩
theorem cX7_44 (M : MD) (h : M.1.cls = RX7) : CS M 44 MX7_in 3 := ⟨⟨(by rw [h]; exact (gt_3 65 rfl rfl)), (gt_3 66 rfl rfl), (gt_1 7 rfl rfl), (show Cond.code MX7_in.1 MX7_in.2.1 MX7_in.2.2.1 MX7_in.2.2.2 ∈ GW from gt_3 67 rfl rfl)⟩, ⟨by decide, by decide, by decide +kernel⟩, Nat.le_of_ble_eq_true rfl⟩
theorem flX7_48 (M : MD) (h : M.1.cls = RX7) : FL M 48 6 4 := ⟨RX7, TX7, 17, rfl, by decide, gwc_X7, by rw [h]; exact (gt_3 11 rfl rfl)⟩
theorem fpX7_48 (M : MD) (h : M.1.cls = RX7) : FP M 48 6 4 .int := ⟨RX7, TX7, 17, tyX7, ⟨rfl, by decide, gwc_X7, by rw [h]; exact (gt_3 11 rfl rfl)⟩, tyX7_ok, nmX7, rfl, Or.inl rfl⟩
theorem cX7_60 (M : MD) (h : M.1.cls = RX7) : CV M 60 MX7_fits 1 := ⟨⟨(by rw [h]; exact (gt_3 77 rfl rfl)), (gt_3 79 rfl rfl), (gt_s 7 rfl rfl), (gt_1 7 rfl rfl), (show Cond.code MX7_fits.1 MX7_fits.2.1 MX7_fits.2.2.1 MX7_fits.2.2.2 ∈ GW from gt_3 80 rfl rfl)⟩, ⟨by decide, by decide, by decide +kernel⟩, Nat.le_of_ble_eq_true rfl⟩
theorem cX7_64 (M : MD) (h : M.1.cls = RX7) : CV M 64 MX7_fault 0 := ⟨⟨(by rw [h]; exact (gt_3 88 rfl rfl)), (gt_3 74 rfl rfl), (gt_3 75 rfl rfl), (gt_1 7 rfl rfl), (show Cond.code MX7_fault.1 MX7_fault.2.1 MX7_fault.2.2.1 MX7_fault.2.2.2 ∈ GW from gt_3 76 rfl rfl)⟩, ⟨by decide, by decide, by decide +kernel⟩, Nat.le_of_ble_eq_true rfl⟩
theorem flX7_68 (M : MD) (h : M.1.cls = RX7) : FL M 68 6 0 := ⟨RX7, TX7, 17, rfl, by decide, gwc_X7, by rw [h]; exact (gt_3 7 rfl rfl)⟩
theorem fpX7_68 (M : MD) (h : M.1.cls = RX7) : FP M 68 6 0 .int := ⟨RX7, TX7, 17, tyX7, ⟨rfl, by decide, gwc_X7, by rw [h]; exact (gt_3 7 rfl rfl)⟩, tyX7_ok, nmX7, rfl, Or.inl rfl⟩
theorem flX7_71 (M : MD) (h : M.1.cls = RX7) : FL M 71 6 6 := ⟨RX7, TX7, 17, rfl, by decide, gwc_X7, by rw [h]; exact (gt_3 13 rfl rfl)⟩
theorem fpX7_71 (M : MD) (h : M.1.cls = RX7) : FP M 71 6 6 .int := ⟨RX7, TX7, 17, tyX7, ⟨rfl, by decide, gwc_X7, by rw [h]; exact (gt_3 13 rfl rfl)⟩, tyX7_ok, nmX7, rfl, Or.inl rfl⟩
theorem cX7_74 (M : MD) (h : M.1.cls = RX7) : CV M 74 MX7_isThrower 1 := ⟨⟨(by rw [h]; exact (gt_3 93 rfl rfl)), (gt_3 95 rfl rfl), (gt_s 8 rfl rfl), (gt_1 7 rfl rfl), (show Cond.code MX7_isThrower.1 MX7_isThrower.2.1 MX7_isThrower.2.2.1 MX7_isThrower.2.2.2 ∈ GW from gt_3 96 rfl rfl)⟩, ⟨by decide, by decide, by decide +kernel⟩, Nat.le_of_ble_eq_true rfl⟩
theorem cX7_77 (M : MD) (h : M.1.cls = RX7) : CV M 77 MX7_mark 3 := ⟨⟨(by rw [h]; exact (gt_3 97 rfl rfl)), (gt_3 99 rfl rfl), (gt_s 9 rfl rfl), (gt_1 7 rfl rfl), (show Cond.code MX7_mark.1 MX7_mark.2.1 MX7_mark.2.2.1 MX7_mark.2.2.2 ∈ GW from gt_3 100 rfl rfl)⟩, ⟨by decide, by decide, by decide +kernel⟩, Nat.le_of_ble_eq_true rfl⟩
theorem cX7_82 (M : MD) (h : M.1.cls = RX7) : CS M 82 MX7_value 3 := ⟨⟨(by rw [h]; exact (gt_3 117 rfl rfl)), (gt_3 118 rfl rfl), (gt_1 7 rfl rfl), (show Cond.code MX7_value.1 MX7_value.2.1 MX7_value.2.2.1 MX7_value.2.2.2 ∈ GW from gt_3 119 rfl rfl)⟩, ⟨by decide, by decide, by decide +kernel⟩, Nat.le_of_ble_eq_true rfl⟩
theorem cX7_85 (M : MD) (h : M.1.cls = RX7) : CV M 85 MX7_valueOf 2 := ⟨⟨(by rw [h]; exact (gt_3 113 rfl rfl)), (gt_3 115 rfl rfl), (gt_s 11 rfl rfl), (gt_1 7 rfl rfl), (show Cond.code MX7_valueOf.1 MX7_valueOf.2.1 MX7_valueOf.2.2.1 MX7_valueOf.2.2.2 ∈ GW from gt_3 116 rfl rfl)⟩, ⟨by decide, by decide, by decide +kernel⟩, Nat.le_of_ble_eq_true rfl⟩
theorem cX7_89 (M : MD) (h : M.1.cls = RX7) : CV M 89 MX7_rankOf 2 := ⟨⟨(by rw [h]; exact (gt_3 109 rfl rfl)), (gt_3 111 rfl rfl), (gt_s 10 rfl rfl), (gt_1 7 rfl rfl), (show Cond.code MX7_rankOf.1 MX7_rankOf.2.1 MX7_rankOf.2.2.1 MX7_rankOf.2.2.2 ∈ GW from gt_3 112 rfl rfl)⟩, ⟨by decide, by decide, by decide +kernel⟩, Nat.le_of_ble_eq_true rfl⟩
theorem cX7_94 (M : MD) (h : M.1.cls = RX7) : CV M 94 MX7_oddsOf 3 := ⟨⟨(by rw [h]; exact (gt_3 126 rfl rfl)), (gt_3 128 rfl rfl), (gt_s 12 rfl rfl), (gt_1 7 rfl rfl), (show Cond.code MX7_oddsOf.1 MX7_oddsOf.2.1 MX7_oddsOf.2.2.1 MX7_oddsOf.2.2.2 ∈ GW from gt_3 129 rfl rfl)⟩, ⟨by decide, by decide, by decide +kernel⟩, Nat.le_of_ble_eq_true rfl⟩
theorem flX7_97 (M : MD) (h : M.1.cls = RX7) : FL M 97 6 7 := ⟨RX7, TX7, 17, rfl, by decide, gwc_X7, by rw [h]; exact (gt_3 14 rfl rfl)⟩
theorem fpX7_97 (M : MD) (h : M.1.cls = RX7) : FP M 97 6 7 .int := ⟨RX7, TX7, 17, tyX7, ⟨rfl, by decide, gwc_X7, by rw [h]; exact (gt_3 14 rfl rfl)⟩, tyX7_ok, nmX7, rfl, Or.inl rfl⟩
theorem cX7_100 (M : MD) (h : M.1.cls = RX7) : CV M 100 MX7_nextIn 2 := ⟨⟨(by rw [h]; exact (gt_3 154 rfl rfl)), (gt_3 156 rfl rfl), (gt_s 18 rfl rfl), (gt_1 7 rfl rfl), (show Cond.code MX7_nextIn.1 MX7_nextIn.2.1 MX7_nextIn.2.2.1 MX7_nextIn.2.2.2 ∈ GW from gt_3 157 rfl rfl)⟩, ⟨by decide, by decide, by decide +kernel⟩, Nat.le_of_ble_eq_true rfl⟩
theorem cX7_103 (M : MD) (h : M.1.cls = RX7) : CV M 103 MX7_set 4 := ⟨⟨(by rw [h]; exact (gt_3 146 rfl rfl)), (gt_3 148 rfl rfl), (gt_s 16 rfl rfl), (gt_1 7 rfl rfl), (show Cond.code MX7_set.1 MX7_set.2.1 MX7_set.2.2.1 MX7_set.2.2.2 ∈ GW from gt_3 149 rfl rfl)⟩, ⟨by decide, by decide, by decide +kernel⟩, Nat.le_of_ble_eq_true rfl⟩
theorem cX7_107 (M : MD) (h : M.1.cls = RX7) : CV M 107 MX7_goOn 1 := ⟨⟨(by rw [h]; exact (gt_3 150 rfl rfl)), (gt_3 152 rfl rfl), (gt_s 17 rfl rfl), (gt_1 7 rfl rfl), (show Cond.code MX7_goOn.1 MX7_goOn.2.1 MX7_goOn.2.2.1 MX7_goOn.2.2.2 ∈ GW from gt_3 153 rfl rfl)⟩, ⟨by decide, by decide, by decide +kernel⟩, Nat.le_of_ble_eq_true rfl⟩
theorem cX7_111 (M : MD) (h : M.1.cls = RX7) : CV M 111 MX7_keepAct 0 := ⟨⟨(by rw [h]; exact (gt_3 138 rfl rfl)), (gt_3 140 rfl rfl), (gt_s 14 rfl rfl), (gt_1 7 rfl rfl), (show Cond.code MX7_keepAct.1 MX7_keepAct.2.1 MX7_keepAct.2.2.1 MX7_keepAct.2.2.2 ∈ GW from gt_3 141 rfl rfl)⟩, ⟨by decide, by decide, by decide +kernel⟩, Nat.le_of_ble_eq_true rfl⟩
theorem cX7_114 (M : MD) (h : M.1.cls = RX7) : CV M 114 MX7_make 2 := ⟨⟨(by rw [h]; exact (gt_3 142 rfl rfl)), (gt_3 144 rfl rfl), (gt_s 15 rfl rfl), (gt_1 7 rfl rfl), (show Cond.code MX7_make.1 MX7_make.2.1 MX7_make.2.2.1 MX7_make.2.2.2 ∈ GW from gt_3 145 rfl rfl)⟩, ⟨by decide, by decide, by decide +kernel⟩, Nat.le_of_ble_eq_true rfl⟩
theorem cX7_118 (M : MD) (h : M.1.cls = RX7) : CV M 118 MX7_act 1 := ⟨⟨(by rw [h]; exact (gt_3 134 rfl rfl)), (gt_3 136 rfl rfl), (gt_s 13 rfl rfl), (gt_1 7 rfl rfl), (show Cond.code MX7_act.1 MX7_act.2.1 MX7_act.2.2.1 MX7_act.2.2.2 ∈ GW from gt_3 137 rfl rfl)⟩, ⟨by decide, by decide, by decide +kernel⟩, Nat.le_of_ble_eq_true rfl⟩
theorem cX7_124 (M : MD) (h : M.1.cls = RX7) : CS M 124 MX7_tenTo 1 := ⟨⟨(by rw [h]; exact (gt_3 170 rfl rfl)), (gt_3 171 rfl rfl), (gt_1 7 rfl rfl), (show Cond.code MX7_tenTo.1 MX7_tenTo.2.1 MX7_tenTo.2.2.1 MX7_tenTo.2.2.2 ∈ GW from gt_3 172 rfl rfl)⟩, ⟨by decide, by decide, by decide +kernel⟩, Nat.le_of_ble_eq_true rfl⟩
theorem cX7_128 (M : MD) (h : M.1.cls = RX7) : CV M 128 MX7_copyNow 0 := ⟨⟨(by rw [h]; exact (gt_3 174 rfl rfl)), (gt_3 176 rfl rfl), (gt_s 19 rfl rfl), (gt_1 7 rfl rfl), (show Cond.code MX7_copyNow.1 MX7_copyNow.2.1 MX7_copyNow.2.2.1 MX7_copyNow.2.2.2 ∈ GW from gt_3 177 rfl rfl)⟩, ⟨by decide, by decide, by decide +kernel⟩, Nat.le_of_ble_eq_true rfl⟩
theorem cX7_131 (M : MD) (h : M.1.cls = RX7) : CV M 131 MX7_isOut 1 := ⟨⟨(by rw [h]; exact (gt_3 182 rfl rfl)), (gt_3 184 rfl rfl), (gt_s 20 rfl rfl), (gt_1 7 rfl rfl), (show Cond.code MX7_isOut.1 MX7_isOut.2.1 MX7_isOut.2.2.1 MX7_isOut.2.2.2 ∈ GW from gt_3 185 rfl rfl)⟩, ⟨by decide, by decide, by decide +kernel⟩, Nat.le_of_ble_eq_true rfl⟩
theorem cX7_134 (M : MD) (h : M.1.cls = RX7) : CV M 134 MX7_clearsOf 1 := ⟨⟨(by rw [h]; exact (gt_3 186 rfl rfl)), (gt_3 188 rfl rfl), (gt_s 21 rfl rfl), (gt_1 7 rfl rfl), (show Cond.code MX7_clearsOf.1 MX7_clearsOf.2.1 MX7_clearsOf.2.2.1 MX7_clearsOf.2.2.2 ∈ GW from gt_3 189 rfl rfl)⟩, ⟨by decide, by decide, by decide +kernel⟩, Nat.le_of_ble_eq_true rfl⟩
theorem cX7_139 (M : MD) (h : M.1.cls = RX7) : CS M 139 MX7_common 2 := ⟨⟨(by rw [h]; exact (gt_3 191 rfl rfl)), (gt_3 192 rfl rfl), (gt_1 7 rfl rfl), (show Cond.code MX7_common.1 MX7_common.2.1 MX7_common.2.2.1 MX7_common.2.2.2 ∈ GW from gt_3 193 rfl rfl)⟩, ⟨by decide, by decide, by decide +kernel⟩, Nat.le_of_ble_eq_true rfl⟩
theorem cX7_143 (M : MD) (h : M.1.cls = RX7) : CS M 143 MX7_place 4 := ⟨⟨(by rw [h]; exact (gt_3 207 rfl rfl)), (gt_3 208 rfl rfl), (gt_1 7 rfl rfl), (show Cond.code MX7_place.1 MX7_place.2.1 MX7_place.2.2.1 MX7_place.2.2.2 ∈ GW from gt_3 209 rfl rfl)⟩, ⟨by decide, by decide, by decide +kernel⟩, Nat.le_of_ble_eq_true rfl⟩
theorem cX7_147 (M : MD) (h : M.1.cls = RX7) : CV M 147 MX7_layMean 5 := ⟨⟨(by rw [h]; exact (gt_3 210 rfl rfl)), (gt_3 212 rfl rfl), (gt_s 24 rfl rfl), (gt_1 7 rfl rfl), (show Cond.code MX7_layMean.1 MX7_layMean.2.1 MX7_layMean.2.2.1 MX7_layMean.2.2.2 ∈ GW from gt_3 213 rfl rfl)⟩, ⟨by decide, by decide, by decide +kernel⟩, Nat.le_of_ble_eq_true rfl⟩
theorem flX7_151 (M : MD) (h : M.1.cls = RX7) : FL M 151 6 10 := ⟨RX7, TX7, 17, rfl, by decide, gwc_X7, by rw [h]; exact (gt_3 17 rfl rfl)⟩
theorem fpX7_151 (M : MD) (h : M.1.cls = RX7) : FP M 151 6 10 .long := ⟨RX7, TX7, 17, tyX7, ⟨rfl, by decide, gwc_X7, by rw [h]; exact (gt_3 17 rfl rfl)⟩, tyX7_ok, nmX7, rfl, Or.inl rfl⟩
theorem flX7_155 (M : MD) (h : M.1.cls = RX7) : FL M 155 6 11 := ⟨RX7, TX7, 17, rfl, by decide, gwc_X7, by rw [h]; exact (gt_3 18 rfl rfl)⟩
theorem fpX7_155 (M : MD) (h : M.1.cls = RX7) : FP M 155 6 11 .long := ⟨RX7, TX7, 17, tyX7, ⟨rfl, by decide, gwc_X7, by rw [h]; exact (gt_3 18 rfl rfl)⟩, tyX7_ok, nmX7, rfl, Or.inl rfl⟩
theorem cX7_160 (M : MD) (h : M.1.cls = RX7) : CV M 160 MX7_refused 2 := ⟨⟨(by rw [h]; exact (gt_3 198 rfl rfl)), (gt_3 200 rfl rfl), (gt_s 22 rfl rfl), (gt_1 7 rfl rfl), (show Cond.code MX7_refused.1 MX7_refused.2.1 MX7_refused.2.2.1 MX7_refused.2.2.2 ∈ GW from gt_3 201 rfl rfl)⟩, ⟨by decide, by decide, by decide +kernel⟩, Nat.le_of_ble_eq_true rfl⟩
theorem cX7_163 (M : MD) (h : M.1.cls = RX7) : CV M 163 MX7_layMeans 2 := ⟨⟨(by rw [h]; exact (gt_3 203 rfl rfl)), (gt_3 205 rfl rfl), (gt_s 23 rfl rfl), (gt_1 7 rfl rfl), (show Cond.code MX7_layMeans.1 MX7_layMeans.2.1 MX7_layMeans.2.2.1 MX7_layMeans.2.2.2 ∈ GW from gt_3 206 rfl rfl)⟩, ⟨by decide, by decide, by decide +kernel⟩, Nat.le_of_ble_eq_true rfl⟩
theorem cX7_166 (M : MD) (h : M.1.cls = RX7) : CV M 166 MX7_partsOf 3 := ⟨⟨(by rw [h]; exact (gt_3 222 rfl rfl)), (gt_3 224 rfl rfl), (gt_s 25 rfl rfl), (gt_1 7 rfl rfl), (show Cond.code MX7_partsOf.1 MX7_partsOf.2.1 MX7_partsOf.2.2.1 MX7_partsOf.2.2.2 ∈ GW from gt_3 225 rfl rfl)⟩, ⟨by decide, by decide, by decide +kernel⟩, Nat.le_of_ble_eq_true rfl⟩
theorem flX7_176 (M : MD) (h : M.1.cls = RX7) : FL M 176 6 14 := ⟨RX7, TX7, 17, rfl, by decide, gwc_X7, by rw [h]; exact (gt_3 21 rfl rfl)⟩
theorem fpX7_176 (M : MD) (h : M.1.cls = RX7) : FP M 176 6 14 .long := ⟨RX7, TX7, 17, tyX7, ⟨rfl, by decide, gwc_X7, by rw [h]; exact (gt_3 21 rfl rfl)⟩, tyX7_ok, nmX7, rfl, Or.inl rfl⟩
theorem cX7_183 (M : MD) (h : M.1.cls = RX7) : CV M 183 MX7_winners 1 := ⟨⟨(by rw [h]; exact (gt_4 7 rfl rfl)), (gt_4 9 rfl rfl), (gt_s 26 rfl rfl), (gt_1 7 rfl rfl), (show Cond.code MX7_winners.1 MX7_winners.2.1 MX7_winners.2.2.1 MX7_winners.2.2.2 ∈ GW from gt_4 10 rfl rfl)⟩, ⟨by decide, by decide, by decide +kernel⟩, Nat.le_of_ble_eq_true rfl⟩
theorem cX7_186 (M : MD) (h : M.1.cls = RX7) : CV M 186 MX7_those 1 := ⟨⟨(by rw [h]; exact (gt_4 23 rfl rfl)), (gt_4 25 rfl rfl), (gt_s 27 rfl rfl), (gt_1 7 rfl rfl), (show Cond.code MX7_those.1 MX7_those.2.1 MX7_those.2.2.1 MX7_those.2.2.2 ∈ GW from gt_4 26 rfl rfl)⟩, ⟨by decide, by decide, by decide +kernel⟩, Nat.le_of_ble_eq_true rfl⟩
theorem cL_9 (M : MD) (h : M.1.cls = RL) : CI M 9 MX6_init 0 := ⟨⟨(by rw [h]; exact (gt_1 13 rfl rfl)), (gt_1 14 rfl rfl), (gt_1 1 rfl rfl), (show Cond.code MX6_init.1 MX6_init.2.1 MX6_init.2.2.1 MX6_init.2.2.2 ∈ GW from gt_1 15 rfl rfl), rfl, rfl⟩, ⟨by decide, by decide, by decide +kernel⟩, Nat.le_of_ble_eq_true rfl⟩
theorem cL_12 (M : MD) (h : M.1.cls = RL) : CI M 12 MX7_init 0 := ⟨⟨(by rw [h]; exact (gt_3 3 rfl rfl)), (gt_3 4 rfl rfl), (gt_1 7 rfl rfl), (show Cond.code MX7_init.1 MX7_init.2.1 MX7_init.2.2.1 MX7_init.2.2.2 ∈ GW from gt_3 5 rfl rfl), rfl, rfl⟩, ⟨by decide, by decide, by decide +kernel⟩, Nat.le_of_ble_eq_true rfl⟩
theorem cL_15 (M : MD) (h : M.1.cls = RL) : CV M 15 MX6_write 2 := ⟨⟨(by rw [h]; exact (gt_1 168 rfl rfl)), (gt_1 169 rfl rfl), (gt_1 170 rfl rfl), (gt_1 1 rfl rfl), (show Cond.code MX6_write.1 MX6_write.2.1 MX6_write.2.2.1 MX6_write.2.2.2 ∈ GW from gt_1 171 rfl rfl)⟩, ⟨by decide, by decide, by decide +kernel⟩, Nat.le_of_ble_eq_true rfl⟩
theorem cL_19 (M : MD) (h : M.1.cls = RL) : CV M 19 MX7_write 2 := ⟨⟨(by rw [h]; exact (gt_3 60 rfl rfl)), (gt_3 61 rfl rfl), (gt_3 62 rfl rfl), (gt_1 7 rfl rfl), (show Cond.code MX7_write.1 MX7_write.2.1 MX7_write.2.2.1 MX7_write.2.2.2 ∈ GW from gt_3 63 rfl rfl)⟩, ⟨by decide, by decide, by decide +kernel⟩, Nat.le_of_ble_eq_true rfl⟩
theorem cL_20 (M : MD) (h : M.1.cls = RL) : CV M 20 MX6_wipe 0 := ⟨⟨(by rw [h]; exact (gt_1 176 rfl rfl)), (gt_1 177 rfl rfl), (gt_1 178 rfl rfl), (gt_1 1 rfl rfl), (show Cond.code MX6_wipe.1 MX6_wipe.2.1 MX6_wipe.2.2.1 MX6_wipe.2.2.2 ∈ GW from gt_1 179 rfl rfl)⟩, ⟨by decide, by decide, by decide +kernel⟩, Nat.le_of_ble_eq_true rfl⟩
theorem cL_24 (M : MD) (h : M.1.cls = RL) : CV M 24 MX7_wipe 0 := ⟨⟨(by rw [h]; exact (gt_3 69 rfl rfl)), (gt_3 70 rfl rfl), (gt_3 71 rfl rfl), (gt_1 7 rfl rfl), (show Cond.code MX7_wipe.1 MX7_wipe.2.1 MX7_wipe.2.2.1 MX7_wipe.2.2.2 ∈ GW from gt_3 72 rfl rfl)⟩, ⟨by decide, by decide, by decide +kernel⟩, Nat.le_of_ble_eq_true rfl⟩
theorem cL_25 (M : MD) (h : M.1.cls = RL) : CV M 25 MX6_fault 0 := ⟨⟨(by rw [h]; exact (gt_1 180 rfl rfl)), (gt_1 181 rfl rfl), (gt_1 182 rfl rfl), (gt_1 1 rfl rfl), (show Cond.code MX6_fault.1 MX6_fault.2.1 MX6_fault.2.2.1 MX6_fault.2.2.2 ∈ GW from gt_1 183 rfl rfl)⟩, ⟨by decide, by decide, by decide +kernel⟩, Nat.le_of_ble_eq_true rfl⟩
theorem cL_28 (M : MD) (h : M.1.cls = RL) : CV M 28 MX7_fault 0 := ⟨⟨(by rw [h]; exact (gt_3 73 rfl rfl)), (gt_3 74 rfl rfl), (gt_3 75 rfl rfl), (gt_1 7 rfl rfl), (show Cond.code MX7_fault.1 MX7_fault.2.1 MX7_fault.2.2.1 MX7_fault.2.2.2 ∈ GW from gt_3 76 rfl rfl)⟩, ⟨by decide, by decide, by decide +kernel⟩, Nat.le_of_ble_eq_true rfl⟩
theorem cL_29 (M : MD) (h : M.1.cls = RL) : CV M 29 MX6_field 0 := ⟨⟨(by rw [h]; exact (gt_1 191 rfl rfl)), (gt_1 192 rfl rfl), (gt_1 193 rfl rfl), (gt_1 1 rfl rfl), (show Cond.code MX6_field.1 MX6_field.2.1 MX6_field.2.2.1 MX6_field.2.2.2 ∈ GW from gt_1 194 rfl rfl)⟩, ⟨by decide, by decide, by decide +kernel⟩, Nat.le_of_ble_eq_true rfl⟩
theorem cL_32 (M : MD) (h : M.1.cls = RL) : CV M 32 MX7_field 0 := ⟨⟨(by rw [h]; exact (gt_3 84 rfl rfl)), (gt_3 85 rfl rfl), (gt_3 86 rfl rfl), (gt_1 7 rfl rfl), (show Cond.code MX7_field.1 MX7_field.2.1 MX7_field.2.2.1 MX7_field.2.2.2 ∈ GW from gt_3 87 rfl rfl)⟩, ⟨by decide, by decide, by decide +kernel⟩, Nat.le_of_ble_eq_true rfl⟩
theorem cL_33 (M : MD) (h : M.1.cls = RL) : CV M 33 MX6_thrower 2 := ⟨⟨(by rw [h]; exact (gt_1 239 rfl rfl)), (gt_2 0 rfl rfl), (gt_2 1 rfl rfl), (gt_1 1 rfl rfl), (show Cond.code MX6_thrower.1 MX6_thrower.2.1 MX6_thrower.2.2.1 MX6_thrower.2.2.2 ∈ GW from gt_2 2 rfl rfl)⟩, ⟨by decide, by decide, by decide +kernel⟩, Nat.le_of_ble_eq_true rfl⟩
theorem cL_37 (M : MD) (h : M.1.cls = RL) : CV M 37 MX7_thrower 2 := ⟨⟨(by rw [h]; exact (gt_3 89 rfl rfl)), (gt_3 90 rfl rfl), (gt_3 91 rfl rfl), (gt_1 7 rfl rfl), (show Cond.code MX7_thrower.1 MX7_thrower.2.1 MX7_thrower.2.2.1 MX7_thrower.2.2.2 ∈ GW from gt_3 92 rfl rfl)⟩, ⟨by decide, by decide, by decide +kernel⟩, Nat.le_of_ble_eq_true rfl⟩
theorem cL_38 (M : MD) (h : M.1.cls = RL) : CV M 38 MX6_on 0 := ⟨⟨(by rw [h]; exact (gt_2 8 rfl rfl)), (gt_2 9 rfl rfl), (gt_2 10 rfl rfl), (gt_1 1 rfl rfl), (show Cond.code MX6_on.1 MX6_on.2.1 MX6_on.2.2.1 MX6_on.2.2.2 ∈ GW from gt_2 11 rfl rfl)⟩, ⟨by decide, by decide, by decide +kernel⟩, Nat.le_of_ble_eq_true rfl⟩
theorem cL_41 (M : MD) (h : M.1.cls = RL) : CV M 41 MX7_on 0 := ⟨⟨(by rw [h]; exact (gt_3 101 rfl rfl)), (gt_3 102 rfl rfl), (gt_3 103 rfl rfl), (gt_1 7 rfl rfl), (show Cond.code MX7_on.1 MX7_on.2.1 MX7_on.2.2.1 MX7_on.2.2.2 ∈ GW from gt_3 104 rfl rfl)⟩, ⟨by decide, by decide, by decide +kernel⟩, Nat.le_of_ble_eq_true rfl⟩
theorem cL_42 (M : MD) (h : M.1.cls = RL) : CV M 42 MX6_rank 1 := ⟨⟨(by rw [h]; exact (gt_2 12 rfl rfl)), (gt_2 13 rfl rfl), (gt_2 14 rfl rfl), (gt_1 1 rfl rfl), (show Cond.code MX6_rank.1 MX6_rank.2.1 MX6_rank.2.2.1 MX6_rank.2.2.2 ∈ GW from gt_2 15 rfl rfl)⟩, ⟨by decide, by decide, by decide +kernel⟩, Nat.le_of_ble_eq_true rfl⟩
theorem cL_46 (M : MD) (h : M.1.cls = RL) : CV M 46 MX7_rank 1 := ⟨⟨(by rw [h]; exact (gt_3 105 rfl rfl)), (gt_3 106 rfl rfl), (gt_3 107 rfl rfl), (gt_1 7 rfl rfl), (show Cond.code MX7_rank.1 MX7_rank.2.1 MX7_rank.2.2.1 MX7_rank.2.2.2 ∈ GW from gt_3 108 rfl rfl)⟩, ⟨by decide, by decide, by decide +kernel⟩, Nat.le_of_ble_eq_true rfl⟩
theorem cL_47 (M : MD) (h : M.1.cls = RL) : CV M 47 MX6_odds 2 := ⟨⟨(by rw [h]; exact (gt_2 24 rfl rfl)), (gt_2 25 rfl rfl), (gt_2 26 rfl rfl), (gt_1 1 rfl rfl), (show Cond.code MX6_odds.1 MX6_odds.2.1 MX6_odds.2.2.1 MX6_odds.2.2.2 ∈ GW from gt_2 27 rfl rfl)⟩, ⟨by decide, by decide, by decide +kernel⟩, Nat.le_of_ble_eq_true rfl⟩
theorem cL_50 (M : MD) (h : M.1.cls = RL) : CV M 50 MX7_odds 2 := ⟨⟨(by rw [h]; exact (gt_3 121 rfl rfl)), (gt_3 122 rfl rfl), (gt_3 123 rfl rfl), (gt_1 7 rfl rfl), (show Cond.code MX7_odds.1 MX7_odds.2.1 MX7_odds.2.2.1 MX7_odds.2.2.2 ∈ GW from gt_3 124 rfl rfl)⟩, ⟨by decide, by decide, by decide +kernel⟩, Nat.le_of_ble_eq_true rfl⟩
theorem cL_51 (M : MD) (h : M.1.cls = RL) : CV M 51 MX6_toss 1 := ⟨⟨(by rw [h]; exact (gt_2 36 rfl rfl)), (gt_2 37 rfl rfl), (gt_2 38 rfl rfl), (gt_1 1 rfl rfl), (show Cond.code MX6_toss.1 MX6_toss.2.1 MX6_toss.2.2.1 MX6_toss.2.2.2 ∈ GW from gt_2 39 rfl rfl)⟩, ⟨by decide, by decide, by decide +kernel⟩, Nat.le_of_ble_eq_true rfl⟩
theorem cL_55 (M : MD) (h : M.1.cls = RL) : CV M 55 MX7_toss 1 := ⟨⟨(by rw [h]; exact (gt_3 130 rfl rfl)), (gt_3 131 rfl rfl), (gt_3 132 rfl rfl), (gt_1 7 rfl rfl), (show Cond.code MX7_toss.1 MX7_toss.2.1 MX7_toss.2.2.1 MX7_toss.2.2.2 ∈ GW from gt_3 133 rfl rfl)⟩, ⟨by decide, by decide, by decide +kernel⟩, Nat.le_of_ble_eq_true rfl⟩
theorem cL_56 (M : MD) (h : M.1.cls = RL) : CV M 56 MX6_spare 0 := ⟨⟨(by rw [h]; exact (gt_2 88 rfl rfl)), (gt_2 89 rfl rfl), (gt_2 90 rfl rfl), (gt_1 1 rfl rfl), (show Cond.code MX6_spare.1 MX6_spare.2.1 MX6_spare.2.2.1 MX6_spare.2.2.2 ∈ GW from gt_2 91 rfl rfl)⟩, ⟨by decide, by decide, by decide +kernel⟩, Nat.le_of_ble_eq_true rfl⟩
theorem cL_59 (M : MD) (h : M.1.cls = RL) : CV M 59 MX7_spare 0 := ⟨⟨(by rw [h]; exact (gt_3 158 rfl rfl)), (gt_3 159 rfl rfl), (gt_3 160 rfl rfl), (gt_1 7 rfl rfl), (show Cond.code MX7_spare.1 MX7_spare.2.1 MX7_spare.2.2.1 MX7_spare.2.2.2 ∈ GW from gt_3 161 rfl rfl)⟩, ⟨by decide, by decide, by decide +kernel⟩, Nat.le_of_ble_eq_true rfl⟩
theorem cL_60 (M : MD) (h : M.1.cls = RL) : CV M 60 MX6_undo 0 := ⟨⟨(by rw [h]; exact (gt_2 92 rfl rfl)), (gt_2 93 rfl rfl), (gt_2 94 rfl rfl), (gt_1 1 rfl rfl), (show Cond.code MX6_undo.1 MX6_undo.2.1 MX6_undo.2.2.1 MX6_undo.2.2.2 ∈ GW from gt_2 95 rfl rfl)⟩, ⟨by decide, by decide, by decide +kernel⟩, Nat.le_of_ble_eq_true rfl⟩
theorem cL_63 (M : MD) (h : M.1.cls = RL) : CV M 63 MX7_undo 0 := ⟨⟨(by rw [h]; exact (gt_3 162 rfl rfl)), (gt_3 163 rfl rfl), (gt_3 164 rfl rfl), (gt_1 7 rfl rfl), (show Cond.code MX7_undo.1 MX7_undo.2.1 MX7_undo.2.2.1 MX7_undo.2.2.2 ∈ GW from gt_3 165 rfl rfl)⟩, ⟨by decide, by decide, by decide +kernel⟩, Nat.le_of_ble_eq_true rfl⟩
theorem cL_64 (M : MD) (h : M.1.cls = RL) : CV M 64 MX6_judge 2 := ⟨⟨(by rw [h]; exact (gt_2 100 rfl rfl)), (gt_2 101 rfl rfl), (gt_2 102 rfl rfl), (gt_1 1 rfl rfl), (show Cond.code MX6_judge.1 MX6_judge.2.1 MX6_judge.2.2.1 MX6_judge.2.2.2 ∈ GW from gt_2 103 rfl rfl)⟩, ⟨by decide, by decide, by decide +kernel⟩, Nat.le_of_ble_eq_true rfl⟩
theorem cL_67 (M : MD) (h : M.1.cls = RL) : CV M 67 MX7_judge 2 := ⟨⟨(by rw [h]; exact (gt_3 166 rfl rfl)), (gt_3 167 rfl rfl), (gt_3 168 rfl rfl), (gt_1 7 rfl rfl), (show Cond.code MX7_judge.1 MX7_judge.2.1 MX7_judge.2.2.1 MX7_judge.2.2.2 ∈ GW from gt_3 169 rfl rfl)⟩, ⟨by decide, by decide, by decide +kernel⟩, Nat.le_of_ble_eq_true rfl⟩
theorem cL_68 (M : MD) (h : M.1.cls = RL) : CV M 68 MX6_clears 2 := ⟨⟨(by rw [h]; exact (gt_2 110 rfl rfl)), (gt_2 111 rfl rfl), (gt_2 112 rfl rfl), (gt_1 1 rfl rfl), (show Cond.code MX6_clears.1 MX6_clears.2.1 MX6_clears.2.2.1 MX6_clears.2.2.2 ∈ GW from gt_2 113 rfl rfl)⟩, ⟨by decide, by decide, by decide +kernel⟩, Nat.le_of_ble_eq_true rfl⟩
theorem cL_72 (M : MD) (h : M.1.cls = RL) : CV M 72 MX7_clears 2 := ⟨⟨(by rw [h]; exact (gt_3 178 rfl rfl)), (gt_3 179 rfl rfl), (gt_3 180 rfl rfl), (gt_1 7 rfl rfl), (show Cond.code MX7_clears.1 MX7_clears.2.1 MX7_clears.2.2.1 MX7_clears.2.2.2 ∈ GW from gt_3 181 rfl rfl)⟩, ⟨by decide, by decide, by decide +kernel⟩, Nat.le_of_ble_eq_true rfl⟩
theorem cL_73 (M : MD) (h : M.1.cls = RL) : CV M 73 MX6_mean 3 := ⟨⟨(by rw [h]; exact (gt_2 132 rfl rfl)), (gt_2 133 rfl rfl), (gt_2 134 rfl rfl), (gt_1 1 rfl rfl), (show Cond.code MX6_mean.1 MX6_mean.2.1 MX6_mean.2.2.1 MX6_mean.2.2.2 ∈ GW from gt_2 135 rfl rfl)⟩, ⟨by decide, by decide, by decide +kernel⟩, Nat.le_of_ble_eq_true rfl⟩
theorem cL_77 (M : MD) (h : M.1.cls = RL) : CV M 77 MX7_mean 3 := ⟨⟨(by rw [h]; exact (gt_3 194 rfl rfl)), (gt_3 195 rfl rfl), (gt_3 196 rfl rfl), (gt_1 7 rfl rfl), (show Cond.code MX7_mean.1 MX7_mean.2.1 MX7_mean.2.2.1 MX7_mean.2.2.2 ∈ GW from gt_3 197 rfl rfl)⟩, ⟨by decide, by decide, by decide +kernel⟩, Nat.le_of_ble_eq_true rfl⟩
theorem cL_78 (M : MD) (h : M.1.cls = RL) : CV M 78 MX6_wise 2 := ⟨⟨(by rw [h]; exact (gt_2 157 rfl rfl)), (gt_2 158 rfl rfl), (gt_2 159 rfl rfl), (gt_1 1 rfl rfl), (show Cond.code MX6_wise.1 MX6_wise.2.1 MX6_wise.2.2.1 MX6_wise.2.2.2 ∈ GW from gt_2 160 rfl rfl)⟩, ⟨by decide, by decide, by decide +kernel⟩, Nat.le_of_ble_eq_true rfl⟩
theorem cL_81 (M : MD) (h : M.1.cls = RL) : CV M 81 MX7_wise 2 := ⟨⟨(by rw [h]; exact (gt_3 214 rfl rfl)), (gt_3 215 rfl rfl), (gt_3 216 rfl rfl), (gt_1 7 rfl rfl), (show Cond.code MX7_wise.1 MX7_wise.2.1 MX7_wise.2.2.1 MX7_wise.2.2.2 ∈ GW from gt_3 217 rfl rfl)⟩, ⟨by decide, by decide, by decide +kernel⟩, Nat.le_of_ble_eq_true rfl⟩
theorem cL_82 (M : MD) (h : M.1.cls = RL) : CV M 82 MX6_first 3 := ⟨⟨(by rw [h]; exact (gt_2 163 rfl rfl)), (gt_2 164 rfl rfl), (gt_2 165 rfl rfl), (gt_1 1 rfl rfl), (show Cond.code MX6_first.1 MX6_first.2.1 MX6_first.2.2.1 MX6_first.2.2.2 ∈ GW from gt_2 166 rfl rfl)⟩, ⟨by decide, by decide, by decide +kernel⟩, Nat.le_of_ble_eq_true rfl⟩
theorem cL_85 (M : MD) (h : M.1.cls = RL) : CV M 85 MX7_first 3 := ⟨⟨(by rw [h]; exact (gt_3 218 rfl rfl)), (gt_3 219 rfl rfl), (gt_3 220 rfl rfl), (gt_1 7 rfl rfl), (show Cond.code MX7_first.1 MX7_first.2.1 MX7_first.2.2.1 MX7_first.2.2.2 ∈ GW from gt_3 221 rfl rfl)⟩, ⟨by decide, by decide, by decide +kernel⟩, Nat.le_of_ble_eq_true rfl⟩
theorem cL_86 (M : MD) (h : M.1.cls = RL) : CV M 86 MX6_alone 3 := ⟨⟨(by rw [h]; exact (gt_2 180 rfl rfl)), (gt_2 181 rfl rfl), (gt_2 182 rfl rfl), (gt_1 1 rfl rfl), (show Cond.code MX6_alone.1 MX6_alone.2.1 MX6_alone.2.2.1 MX6_alone.2.2.2 ∈ GW from gt_2 183 rfl rfl)⟩, ⟨by decide, by decide, by decide +kernel⟩, Nat.le_of_ble_eq_true rfl⟩
theorem cL_90 (M : MD) (h : M.1.cls = RL) : CV M 90 MX7_alone 3 := ⟨⟨(by rw [h]; exact (gt_3 226 rfl rfl)), (gt_3 227 rfl rfl), (gt_3 228 rfl rfl), (gt_1 7 rfl rfl), (show Cond.code MX7_alone.1 MX7_alone.2.1 MX7_alone.2.2.1 MX7_alone.2.2.2 ∈ GW from gt_3 229 rfl rfl)⟩, ⟨by decide, by decide, by decide +kernel⟩, Nat.le_of_ble_eq_true rfl⟩
theorem cL_91 (M : MD) (h : M.1.cls = RL) : CV M 91 MX6_sheets 3 := ⟨⟨(by rw [h]; exact (gt_2 184 rfl rfl)), (gt_2 185 rfl rfl), (gt_2 186 rfl rfl), (gt_1 1 rfl rfl), (show Cond.code MX6_sheets.1 MX6_sheets.2.1 MX6_sheets.2.2.1 MX6_sheets.2.2.2 ∈ GW from gt_2 187 rfl rfl)⟩, ⟨by decide, by decide, by decide +kernel⟩, Nat.le_of_ble_eq_true rfl⟩
theorem cL_95 (M : MD) (h : M.1.cls = RL) : CV M 95 MX7_sheets 3 := ⟨⟨(by rw [h]; exact (gt_3 231 rfl rfl)), (gt_3 232 rfl rfl), (gt_3 233 rfl rfl), (gt_1 7 rfl rfl), (show Cond.code MX7_sheets.1 MX7_sheets.2.1 MX7_sheets.2.2.1 MX7_sheets.2.2.2 ∈ GW from gt_3 234 rfl rfl)⟩, ⟨by decide, by decide, by decide +kernel⟩, Nat.le_of_ble_eq_true rfl⟩
theorem cL_96 (M : MD) (h : M.1.cls = RL) : CV M 96 MX6_seed 1 := ⟨⟨(by rw [h]; exact (gt_2 206 rfl rfl)), (gt_2 207 rfl rfl), (gt_2 208 rfl rfl), (gt_1 1 rfl rfl), (show Cond.code MX6_seed.1 MX6_seed.2.1 MX6_seed.2.2.1 MX6_seed.2.2.2 ∈ GW from gt_2 209 rfl rfl)⟩, ⟨by decide, by decide, by decide +kernel⟩, Nat.le_of_ble_eq_true rfl⟩
theorem cL_100 (M : MD) (h : M.1.cls = RL) : CV M 100 MX7_seed 1 := ⟨⟨(by rw [h]; exact (gt_3 237 rfl rfl)), (gt_3 238 rfl rfl), (gt_3 239 rfl rfl), (gt_1 7 rfl rfl), (show Cond.code MX7_seed.1 MX7_seed.2.1 MX7_seed.2.2.1 MX7_seed.2.2.2 ∈ GW from gt_4 0 rfl rfl)⟩, ⟨by decide, by decide, by decide +kernel⟩, Nat.le_of_ble_eq_true rfl⟩
theorem cL_101 (M : MD) (h : M.1.cls = RL) : CV M 101 MX6_fair 0 := ⟨⟨(by rw [h]; exact (gt_2 210 rfl rfl)), (gt_2 211 rfl rfl), (gt_2 212 rfl rfl), (gt_1 1 rfl rfl), (show Cond.code MX6_fair.1 MX6_fair.2.1 MX6_fair.2.2.1 MX6_fair.2.2.2 ∈ GW from gt_2 213 rfl rfl)⟩, ⟨by decide, by decide, by decide +kernel⟩, Nat.le_of_ble_eq_true rfl⟩
theorem cL_104 (M : MD) (h : M.1.cls = RL) : CV M 104 MX7_fair 0 := ⟨⟨(by rw [h]; exact (gt_4 1 rfl rfl)), (gt_4 2 rfl rfl), (gt_4 3 rfl rfl), (gt_1 7 rfl rfl), (show Cond.code MX7_fair.1 MX7_fair.2.1 MX7_fair.2.2.1 MX7_fair.2.2.2 ∈ GW from gt_4 4 rfl rfl)⟩, ⟨by decide, by decide, by decide +kernel⟩, Nat.le_of_ble_eq_true rfl⟩
theorem cL_105 (M : MD) (h : M.1.cls = RL) : CV M 105 MX6_keep 1 := ⟨⟨(by rw [h]; exact (gt_2 227 rfl rfl)), (gt_2 228 rfl rfl), (gt_2 229 rfl rfl), (gt_1 1 rfl rfl), (show Cond.code MX6_keep.1 MX6_keep.2.1 MX6_keep.2.2.1 MX6_keep.2.2.2 ∈ GW from gt_2 230 rfl rfl)⟩, ⟨by decide, by decide, by decide +kernel⟩, Nat.le_of_ble_eq_true rfl⟩
theorem cL_108 (M : MD) (h : M.1.cls = RL) : CV M 108 MX7_keep 1 := ⟨⟨(by rw [h]; exact (gt_4 11 rfl rfl)), (gt_4 12 rfl rfl), (gt_4 13 rfl rfl), (gt_1 7 rfl rfl), (show Cond.code MX7_keep.1 MX7_keep.2.1 MX7_keep.2.2.1 MX7_keep.2.2.2 ∈ GW from gt_4 14 rfl rfl)⟩, ⟨by decide, by decide, by decide +kernel⟩, Nat.le_of_ble_eq_true rfl⟩
theorem cL_109 (M : MD) (h : M.1.cls = RL) : CV M 109 MX6_again 1 := ⟨⟨(by rw [h]; exact (gt_2 231 rfl rfl)), (gt_2 232 rfl rfl), (gt_2 233 rfl rfl), (gt_1 1 rfl rfl), (show Cond.code MX6_again.1 MX6_again.2.1 MX6_again.2.2.1 MX6_again.2.2.2 ∈ GW from gt_2 234 rfl rfl)⟩, ⟨by decide, by decide, by decide +kernel⟩, Nat.le_of_ble_eq_true rfl⟩
theorem cL_112 (M : MD) (h : M.1.cls = RL) : CV M 112 MX7_again 1 := ⟨⟨(by rw [h]; exact (gt_4 15 rfl rfl)), (gt_4 16 rfl rfl), (gt_4 17 rfl rfl), (gt_1 7 rfl rfl), (show Cond.code MX7_again.1 MX7_again.2.1 MX7_again.2.2.1 MX7_again.2.2.2 ∈ GW from gt_4 18 rfl rfl)⟩, ⟨by decide, by decide, by decide +kernel⟩, Nat.le_of_ble_eq_true rfl⟩
theorem cL_113 (M : MD) (h : M.1.cls = RL) : CV M 113 MX6_count 1 := ⟨⟨(by rw [h]; exact (gt_2 235 rfl rfl)), (gt_2 236 rfl rfl), (gt_2 237 rfl rfl), (gt_1 1 rfl rfl), (show Cond.code MX6_count.1 MX6_count.2.1 MX6_count.2.2.1 MX6_count.2.2.2 ∈ GW from gt_2 238 rfl rfl)⟩, ⟨by decide, by decide, by decide +kernel⟩, Nat.le_of_ble_eq_true rfl⟩
theorem cL_116 (M : MD) (h : M.1.cls = RL) : CV M 116 MX7_count 1 := ⟨⟨(by rw [h]; exact (gt_4 19 rfl rfl)), (gt_4 20 rfl rfl), (gt_4 21 rfl rfl), (gt_1 7 rfl rfl), (show Cond.code MX7_count.1 MX7_count.2.1 MX7_count.2.2.1 MX7_count.2.2.2 ∈ GW from gt_4 22 rfl rfl)⟩, ⟨by decide, by decide, by decide +kernel⟩, Nat.le_of_ble_eq_true rfl⟩
