def wsL_law0_r18 : List Cond := [Cond.methodLink RL 44 yX9_fault, Cond.instanceMethod yX9_fault, Cond.selects RX9 yX9_fault yX9_fault, Cond.code yX9_fault cX9_fault 1 (some .int), Cond.methodLink RL 45 yX8_now, Cond.instanceMethod yX8_now, Cond.selects RX8 yX8_now yX8_now, Cond.code yX8_now cX8_now 2 (some .int), Cond.constant RX8 100 (-100000000), Cond.methodLink RX8 78 yX2_workers, Cond.instanceMethod yX2_workers, Cond.selects RX2 yX2_workers yX2_workers, Cond.code yX2_workers cX2_workers 1 (some .int), Cond.methodLink RX8 82 yX8_presentWorkers, Cond.instanceMethod yX8_presentWorkers, Cond.selects RX8 yX8_presentWorkers yX8_presentWorkers, Cond.code yX8_presentWorkers cX8_presentWorkers 3 (some .int), Cond.fieldLink RX8 112 "HoursBank$Sheet" "account" "LHoursBank$Account;", Cond.methodLink RX8 151 yX0_isGone, Cond.instanceMethod yX0_isGone, Cond.selects RX0 yX0_isGone yX0_isGone, Cond.code yX0_isGone cX0_isGone 1 (some .boolean), Cond.methodLink RX8 85 yX2_seasons, Cond.instanceMethod yX2_seasons]
def wsL_law0_r19 : List Cond := [Cond.selects RX2 yX2_seasons yX2_seasons, Cond.code yX2_seasons cX2_seasons 1 (some .int), Cond.methodLink RX8 88 yX8_changedPlans, Cond.instanceMethod yX8_changedPlans, Cond.selects RX8 yX8_changedPlans yX8_changedPlans, Cond.code yX8_changedPlans cX8_changedPlans 3 (some .int), Cond.methodLink RX8 259 yX3_changedDays, Cond.instanceMethod yX3_changedDays, Cond.selects RX3 yX3_changedDays yX3_changedDays, Cond.code yX3_changedDays cX3_changedDays 3 (some .int), Cond.methodLink RX3 56 yX3_isChanged, Cond.instanceMethod yX3_isChanged, Cond.selects RX3 yX3_isChanged yX3_isChanged, Cond.code yX3_isChanged cX3_isChanged 2 (some .boolean), Cond.methodLink RX8 91 yX8_bookedDays, Cond.instanceMethod yX8_bookedDays, Cond.selects RX8 yX8_bookedDays yX8_bookedDays, Cond.code yX8_bookedDays cX8_bookedDays 3 (some .int), Cond.methodLink RX8 262 yX3_bookedFrom, Cond.instanceMethod yX3_bookedFrom, Cond.selects RX3 yX3_bookedFrom yX3_bookedFrom, Cond.code yX3_bookedFrom cX3_bookedFrom 4 (some .int), Cond.methodLink RX3 75 yX3_kindOn, Cond.instanceMethod yX3_kindOn]
def wsL_law0_r20 : List Cond := [Cond.selects RX3 yX3_kindOn yX3_kindOn, Cond.code yX3_kindOn cX3_kindOn 2 (some .int), Cond.methodLink RX3 66 yX3_isBookingLost, Cond.instanceMethod yX3_isBookingLost, Cond.selects RX3 yX3_isBookingLost yX3_isBookingLost, Cond.code yX3_isBookingLost cX3_isBookingLost 2 (some .boolean), Cond.fieldLink RX3 63 "HoursBank$Account" "goneOn" "I", Cond.methodLink RX8 94 yX8_flaggedDays, Cond.instanceMethod yX8_flaggedDays, Cond.selects RX8 yX8_flaggedDays yX8_flaggedDays, Cond.code yX8_flaggedDays cX8_flaggedDays 3 (some .int), Cond.fieldLink RX8 149 "HoursBank$Account" "flaggedDays" "I", Cond.methodLink RX8 97 yX8_coinsPaid, Cond.instanceMethod yX8_coinsPaid, Cond.selects RX8 yX8_coinsPaid yX8_coinsPaid, Cond.code yX8_coinsPaid cX8_coinsPaid 3 (some .int), Cond.methodLink RX8 265 yX0_coinsPaid, Cond.instanceMethod yX0_coinsPaid, Cond.selects RX0 yX0_coinsPaid yX0_coinsPaid, Cond.code yX0_coinsPaid cX0_coinsPaid 1 (some .int), Cond.methodLink RL 48 yX9_now, Cond.instanceMethod yX9_now, Cond.selects RX9 yX9_now yX9_now, Cond.code yX9_now cX9_now 2 (some .int)]
def wsL_law0_r21 : List Cond := [Cond.constant RX9 178 (-100000000), Cond.methodLink RX9 165 yX9_today, Cond.instanceMethod yX9_today, Cond.selects RX9 yX9_today yX9_today, Cond.code yX9_today cX9_today 1 (some .int), Cond.methodLink RX9 169 yX9_here, Cond.instanceMethod yX9_here, Cond.selects RX9 yX9_here yX9_here, Cond.code yX9_here cX9_here 3 (some .int), Cond.methodLink RX9 162 yX9_isHere, Cond.instanceMethod yX9_isHere, Cond.selects RX9 yX9_isHere yX9_isHere, Cond.code yX9_isHere cX9_isHere 2 (some .boolean), Cond.methodLink RX9 125 yX9_isWorker, Cond.instanceMethod yX9_isWorker, Cond.selects RX9 yX9_isWorker yX9_isWorker, Cond.code yX9_isWorker cX9_isWorker 2 (some .boolean), Cond.methodLink RX9 128 yX9_its, Cond.instanceMethod yX9_its, Cond.selects RX9 yX9_its yX9_its, Cond.code yX9_its cX9_its 3 (some .int), Cond.methodLink RX9 172 yX9_ofAll, Cond.instanceMethod yX9_ofAll, Cond.selects RX9 yX9_ofAll yX9_ofAll]
def wsL_law0_r22 : List Cond := [Cond.code yX9_ofAll cX9_ofAll 5 (some .int), Cond.methodLink RX9 158 yX9_many, Cond.instanceMethod yX9_many, Cond.selects RX9 yX9_many yX9_many, Cond.code yX9_many cX9_many 7 (some .int), Cond.methodLink RX9 155 yX9_flaggedOf, Cond.instanceMethod yX9_flaggedOf, Cond.selects RX9 yX9_flaggedOf yX9_flaggedOf, Cond.code yX9_flaggedOf cX9_flaggedOf 3 (some .int), Cond.constant RX9 135 (65536), Cond.methodLink RX9 132 yX9_cell, Cond.instanceMethod yX9_cell, Cond.selects RX9 yX9_cell yX9_cell, Cond.code yX9_cell cX9_cell 3 (some .int), Cond.methodLink RX9 136 yX9_changedOf, Cond.instanceMethod yX9_changedOf, Cond.selects RX9 yX9_changedOf yX9_changedOf, Cond.code yX9_changedOf cX9_changedOf 3 (some .int), Cond.methodLink RX9 139 yX9_kindOf, Cond.instanceMethod yX9_kindOf, Cond.selects RX9 yX9_kindOf yX9_kindOf, Cond.code yX9_kindOf cX9_kindOf 3 (some .int), Cond.methodLink RX9 175 yX9_coins, Cond.instanceMethod yX9_coins]
def wsL_law0_r23 : List Cond := [Cond.selects RX9 yX9_coins yX9_coins, Cond.code yX9_coins cX9_coins 3 (some .int), Cond.methodLink RL 49 yL_worker, Cond.static yL_worker, Cond.initialized RL, Cond.codeWith yL_worker cL_worker 5 (some .int) [(0, 10, 13, 13)], Cond.classLink RL 13 "java/util/NoSuchElementException", Cond.methodLink RL 7 yX8_worker, Cond.instanceMethod yX8_worker, Cond.selects RX8 yX8_worker yX8_worker, Cond.code yX8_worker cX8_worker 5 (some .int), Cond.classLink RX8 105 "java/util/NoSuchElementException", Cond.initialized "java/util/NoSuchElementException", Cond.fieldLink RX8 116 "HoursBank$Account" "balance" "I", Cond.fieldLink RX8 124 "HoursBank$Account" "overtime" "I", Cond.fieldLink RX8 127 "HoursBank$Account" "docked" "I", Cond.fieldLink RX8 130 "HoursBank$Account" "overtimeCoins" "I", Cond.fieldLink RX8 133 "HoursBank$Account" "changeCoins" "I", Cond.fieldLink RX8 136 "HoursBank$Account" "dockedCoins" "I", Cond.fieldLink RX8 139 "HoursBank$Account" "settled" "I", Cond.methodLink RX8 101 yX8_isWorker, Cond.instanceMethod yX8_isWorker, Cond.selects RX8 yX8_isWorker yX8_isWorker, Cond.code yX8_isWorker cX8_isWorker 2 (some .boolean)]
def wsL_law0_r24 : List Cond := [Cond.methodLink RX8 121 yX3_leaveLeft, Cond.instanceMethod yX3_leaveLeft, Cond.selects RX3 yX3_leaveLeft yX3_leaveLeft, Cond.code yX3_leaveLeft cX3_leaveLeft 1 (some .int), Cond.methodLink RX3 94 yX0_isGone, Cond.methodLink RX3 98 yX3_leaveTakenBefore, Cond.instanceMethod yX3_leaveTakenBefore, Cond.selects RX3 yX3_leaveTakenBefore yX3_leaveTakenBefore, Cond.code yX3_leaveTakenBefore cX3_leaveTakenBefore 4 (some .int), Cond.methodLink RX3 78 yX3_planOn, Cond.instanceMethod yX3_planOn, Cond.selects RX3 yX3_planOn yX3_planOn, Cond.code yX3_planOn cX3_planOn 2 (some .int), Cond.methodLink RX3 60 yX2_seasonPlan, Cond.instanceMethod yX2_seasonPlan, Cond.selects RX2 yX2_seasonPlan yX2_seasonPlan, Cond.code yX2_seasonPlan cX2_seasonPlan 3 (some .int), Cond.methodLink RX8 142 yX3_workedBefore, Cond.instanceMethod yX3_workedBefore, Cond.selects RX3 yX3_workedBefore yX3_workedBefore, Cond.code yX3_workedBefore cX3_workedBefore 4 (some .int), Cond.methodLink RX3 81 yX3_workedOn, Cond.instanceMethod yX3_workedOn, Cond.selects RX3 yX3_workedOn yX3_workedOn]
def wsL_law0_r25 : List Cond := [Cond.code yX3_workedOn cX3_workedOn 2 (some .int), Cond.methodLink RX3 69 Lib.Math.max.name, Cond.static Lib.Math.max.name, Cond.code Lib.Math.max.name Lib.Math.max.code 2 (some .int), Cond.methodLink RX8 146 yX3_sickDaysBefore, Cond.instanceMethod yX3_sickDaysBefore, Cond.selects RX3 yX3_sickDaysBefore yX3_sickDaysBefore, Cond.code yX3_sickDaysBefore cX3_sickDaysBefore 4 (some .int), Cond.methodLink RL 54 yX9_worker, Cond.instanceMethod yX9_worker, Cond.selects RX9 yX9_worker yX9_worker, Cond.code yX9_worker cX9_worker 3 (some .int), Cond.methodLink RX9 179 yX9_refuse, Cond.instanceMethod yX9_refuse, Cond.selects RX9 yX9_refuse yX9_refuse, Cond.code yX9_refuse cX9_refuse 1 (some .int), Cond.methodLink RX9 182 yX9_leftOf, Cond.instanceMethod yX9_leftOf, Cond.selects RX9 yX9_leftOf yX9_leftOf, Cond.code yX9_leftOf cX9_leftOf 2 (some .int), Cond.methodLink RX9 151 yX9_onLeave, Cond.instanceMethod yX9_onLeave, Cond.selects RX9 yX9_onLeave yX9_onLeave, Cond.code yX9_onLeave cX9_onLeave 6 (some .int)]
def wsL_law0_r26 : List Cond := [Cond.methodLink RX9 145 yX9_plannedOf, Cond.instanceMethod yX9_plannedOf, Cond.selects RX9 yX9_plannedOf yX9_plannedOf, Cond.code yX9_plannedOf cX9_plannedOf 5 (some .int), Cond.methodLink RX9 185 yX9_workedTill, Cond.instanceMethod yX9_workedTill, Cond.selects RX9 yX9_workedTill yX9_workedTill, Cond.code yX9_workedTill cX9_workedTill 4 (some .int), Cond.methodLink RX9 142 yX9_workedOf, Cond.instanceMethod yX9_workedOf, Cond.selects RX9 yX9_workedOf yX9_workedOf, Cond.code yX9_workedOf cX9_workedOf 3 (some .int), Cond.methodLink RL 55 yX9_thrown, Cond.instanceMethod yX9_thrown, Cond.selects RX9 yX9_thrown yX9_thrown, Cond.code yX9_thrown cX9_thrown 1 (some .int), Cond.methodLink RL 58 yX8_day, Cond.instanceMethod yX8_day, Cond.selects RX8 yX8_day yX8_day, Cond.code yX8_day cX8_day 5 (some .int), Cond.fieldLink RX8 172 "HoursBank$Sheet" "flagged" "[Z", Cond.methodLink RX8 157 yX8_isDay, Cond.static yX8_isDay, Cond.code yX8_isDay cX8_isDay 1 (some .boolean)]
def wsL_law0_r27 : List Cond := [Cond.methodLink RX8 160 yX3_planOn, Cond.methodLink RX8 163 yX3_workedOn, Cond.methodLink RX8 166 yX3_kindOn, Cond.methodLink RX8 169 yX3_loadOn, Cond.instanceMethod yX3_loadOn, Cond.selects RX3 yX3_loadOn yX3_loadOn, Cond.code yX3_loadOn cX3_loadOn 2 (some .int), Cond.methodLink RX8 176 yX3_isChanged, Cond.methodLink RL 62 yX9_day, Cond.instanceMethod yX9_day, Cond.selects RX9 yX9_day yX9_day, Cond.code yX9_day cX9_day 4 (some .int), Cond.methodLink RX9 188 yX9_isDay, Cond.static yX9_isDay, Cond.code yX9_isDay cX9_isDay 1 (some .boolean), Cond.methodLink RX9 148 yX9_loadOf, Cond.instanceMethod yX9_loadOf, Cond.selects RX9 yX9_loadOf yX9_loadOf, Cond.code yX9_loadOf cX9_loadOf 4 (some .int), Cond.methodLink RL 63 yX8_load, Cond.instanceMethod yX8_load, Cond.selects RX8 yX8_load yX8_load, Cond.code yX8_load cX8_load 3 (some .int), Cond.methodLink RX8 179 yX3_windowLoad]
def wsL_law0_r28 : List Cond := [Cond.instanceMethod yX3_windowLoad, Cond.selects RX3 yX3_windowLoad yX3_windowLoad, Cond.code yX3_windowLoad cX3_windowLoad 2 (some .int), Cond.methodLink RX3 91 yX3_windowLoadAhead, Cond.instanceMethod yX3_windowLoadAhead, Cond.selects RX3 yX3_windowLoadAhead yX3_windowLoadAhead, Cond.code yX3_windowLoadAhead cX3_windowLoadAhead 4 (some .int), Cond.methodLink RX3 84 yX2_window, Cond.instanceMethod yX2_window, Cond.selects RX2 yX2_window yX2_window, Cond.code yX2_window cX2_window 1 (some .int), Cond.methodLink RX3 88 yX3_loadOn, Cond.methodLink RL 66 yX9_load, Cond.instanceMethod yX9_load, Cond.selects RX9 yX9_load yX9_load, Cond.code yX9_load cX9_load 3 (some .int), Cond.methodLink RX9 191 yX9_loads, Cond.instanceMethod yX9_loads, Cond.selects RX9 yX9_loads yX9_loads, Cond.code yX9_loads cX9_loads 6 (some .int), Cond.methodLink RL 67 yX8_room, Cond.instanceMethod yX8_room, Cond.selects RX8 yX8_room yX8_room, Cond.code yX8_room cX8_room 3 (some .int)]
def wsL_law0_r29 : List Cond := [Cond.methodLink RX8 195 Lib.Math.min.name, Cond.methodLink RX8 186 yX8_isPresent, Cond.instanceMethod yX8_isPresent, Cond.selects RX8 yX8_isPresent yX8_isPresent, Cond.code yX8_isPresent cX8_isPresent 2 (some .boolean), Cond.methodLink RX8 189 yX2_limit, Cond.instanceMethod yX2_limit, Cond.selects RX2 yX2_limit yX2_limit, Cond.code yX2_limit cX2_limit 1 (some .int), Cond.methodLink RX8 192 yX3_windowLoadAhead, Cond.methodLink RL 70 yX9_room, Cond.instanceMethod yX9_room, Cond.selects RX9 yX9_room yX9_room, Cond.code yX9_room cX9_room 3 (some .int), Cond.methodLink RL 71 yX8_planned, Cond.instanceMethod yX8_planned, Cond.selects RX8 yX8_planned yX8_planned, Cond.code yX8_planned cX8_planned 4 (some .int), Cond.methodLink RX8 182 yX3_plansBetween, Cond.instanceMethod yX3_plansBetween, Cond.selects RX3 yX3_plansBetween yX3_plansBetween, Cond.code yX3_plansBetween cX3_plansBetween 5 (some .int), Cond.methodLink RL 74 yX9_planned, Cond.instanceMethod yX9_planned]
def wsL_law0_r30 : List Cond := [Cond.selects RX9 yX9_planned yX9_planned, Cond.code yX9_planned cX9_planned 6 (some .int), Cond.methodLink RL 75 yX8_reaches, Cond.instanceMethod yX8_reaches, Cond.selects RX8 yX8_reaches yX8_reaches, Cond.code yX8_reaches cX8_reaches 3 (some .int), Cond.methodLink RX8 200 yX3_firstDayOutOfBounds, Cond.instanceMethod yX3_firstDayOutOfBounds, Cond.selects RX3 yX3_firstDayOutOfBounds yX3_firstDayOutOfBounds, Cond.code yX3_firstDayOutOfBounds cX3_firstDayOutOfBounds 6 (some .int), Cond.fieldLink RX3 101 "HoursBank$Account" "balance" "I", Cond.methodLink RX3 104 Lib.Math.min.name, Cond.methodLink RX3 107 yX2_high, Cond.instanceMethod yX2_high, Cond.selects RX2 yX2_high yX2_high, Cond.code yX2_high cX2_high 1 (some .int), Cond.methodLink RX3 110 yX2_low, Cond.instanceMethod yX2_low, Cond.selects RX2 yX2_low yX2_low, Cond.code yX2_low cX2_low 1 (some .int), Cond.methodLink RL 78 yX9_reaches, Cond.instanceMethod yX9_reaches, Cond.selects RX9 yX9_reaches yX9_reaches, Cond.code yX9_reaches cX9_reaches 6 (some .int)]
def wsL_law0_r31 : List Cond := [Cond.methodLink RL 79 yX8_cost, Cond.instanceMethod yX8_cost, Cond.selects RX8 yX8_cost yX8_cost, Cond.code yX8_cost cX8_cost 4 (some .int), Cond.methodLink RX8 203 yX8_canChange, Cond.instanceMethod yX8_canChange, Cond.selects RX8 yX8_canChange yX8_canChange, Cond.code yX8_canChange cX8_canChange 4 (some .boolean), Cond.methodLink RX8 222 yX8_isOpen, Cond.instanceMethod yX8_isOpen, Cond.selects RX8 yX8_isOpen yX8_isOpen, Cond.code yX8_isOpen cX8_isOpen 3 (some .boolean), Cond.methodLink RX8 226 yX8_isQuarters, Cond.static yX8_isQuarters, Cond.code yX8_isQuarters cX8_isQuarters 1 (some .boolean), Cond.methodLink RX8 207 yX8_priceOf, Cond.instanceMethod yX8_priceOf, Cond.selects RX8 yX8_priceOf yX8_priceOf, Cond.code yX8_priceOf cX8_priceOf 5 (some .int), Cond.methodLink RX8 250 Lib.Math.abs.name, Cond.static Lib.Math.abs.name, Cond.code Lib.Math.abs.name Lib.Math.abs.code 1 (some .int), Cond.fieldLink RX8 256 "HoursBank$Sheet" "rate" "I", Cond.methodLink RX8 253 yX2_percentFor]
def wsL_law0_r32 : List Cond := [Cond.instanceMethod yX2_percentFor, Cond.selects RX2 yX2_percentFor yX2_percentFor, Cond.code yX2_percentFor cX2_percentFor 4 (some .int), Cond.methodLink RX2 81 Lib.Math.max.name, Cond.methodLink RL 82 yX9_cost, Cond.instanceMethod yX9_cost, Cond.selects RX9 yX9_cost yX9_cost, Cond.code yX9_cost cX9_cost 4 (some .int), Cond.methodLink RX9 194 yX9_canPlan, Cond.instanceMethod yX9_canPlan, Cond.selects RX9 yX9_canPlan yX9_canPlan, Cond.code yX9_canPlan cX9_canPlan 4 (some .boolean), Cond.methodLink RX9 197 yX9_costOf, Cond.instanceMethod yX9_costOf, Cond.selects RX9 yX9_costOf yX9_costOf, Cond.code yX9_costOf cX9_costOf 7 (some .int), Cond.methodLink RL 83 yL_due, Cond.static yL_due, Cond.codeWith yL_due cL_due 4 (some .int) [(0, 9, 12, 13)], Cond.methodLink RL 15 yX8_due, Cond.instanceMethod yX8_due, Cond.selects RX8 yX8_due yX8_due, Cond.code yX8_due cX8_due 2 (some .int), Cond.methodLink RX8 211 yX3_settlementOn]
def wsL_law0_r33 : List Cond := [Cond.instanceMethod yX3_settlementOn, Cond.selects RX3 yX3_settlementOn yX3_settlementOn, Cond.code yX3_settlementOn cX3_settlementOn 3 (some .int), Cond.methodLink RL 86 yX9_due, Cond.instanceMethod yX9_due, Cond.selects RX9 yX9_due yX9_due, Cond.code yX9_due cX9_due 2 (some .int), Cond.methodLink RX9 214 yX9_dueOf, Cond.instanceMethod yX9_dueOf, Cond.selects RX9 yX9_dueOf yX9_dueOf, Cond.code yX9_dueOf cX9_dueOf 3 (some .int), Cond.methodLink RL 87 yX8_plan, Cond.instanceMethod yX8_plan, Cond.selects RX8 yX8_plan yX8_plan, Cond.code yX8_plan cX8_plan 5 (some .int), Cond.fieldLink RX8 218 "HoursBank$Sheet" "changed" "[I", Cond.methodLink RX8 214 yX1_rememberDay, Cond.instanceMethod yX1_rememberDay, Cond.selects RX1 yX1_rememberDay yX1_rememberDay, Cond.code yX1_rememberDay cX1_rememberDay 6 none, Cond.fieldLink RX1 25 "HoursBank$Step" "worker" "I", Cond.fieldLink RX1 57 "HoursBank$Step" "day" "I", Cond.fieldLink RX1 60 "HoursBank$Sheet" "changed" "[I", Cond.fieldLink RX1 64 "HoursBank$Step" "changed" "I"]
def wsL_law0_r34 : List Cond := [Cond.fieldLink RX1 66 "HoursBank$Sheet" "told" "[I", Cond.fieldLink RX1 69 "HoursBank$Step" "told" "I", Cond.methodLink RX1 53 yX1_remember, Cond.instanceMethod yX1_remember, Cond.selects RX1 yX1_remember yX1_remember, Cond.code yX1_remember cX1_remember 5 (some (.object "HoursBank$Step")), Cond.fieldLink RX1 18 "HoursBank$History" "next" "I", Cond.fieldLink RX1 22 "HoursBank$Step" "today" "I", Cond.fieldLink RX1 28 "HoursBank$Step" "accounts" "[LHoursBank$Account;", Cond.fieldLink RX1 32 "HoursBank$Sheet" "account" "LHoursBank$Account;", Cond.fieldLink RX1 44 "HoursBank$History" "count" "I", Cond.methodLink RX1 47 Lib.Math.min.name, Cond.methodLink RX1 38 yX0_copyFrom, Cond.instanceMethod yX0_copyFrom, Cond.selects RX0 yX0_copyFrom yX0_copyFrom, Cond.code yX0_copyFrom cX0_copyFrom 2 none, Cond.methodLink RL 90 yX9_plan, Cond.instanceMethod yX9_plan, Cond.selects RX9 yX9_plan yX9_plan, Cond.code yX9_plan cX9_plan 5 (some .int), Cond.methodLink RX9 200 yX9_snap, Cond.instanceMethod yX9_snap, Cond.selects RX9 yX9_snap yX9_snap, Cond.code yX9_snap cX9_snap 2 none]
def wsL_law0_r35 : List Cond := [Cond.methodLink RX9 203 yX9_adds, Cond.instanceMethod yX9_adds, Cond.selects RX9 yX9_adds yX9_adds, Cond.code yX9_adds cX9_adds 4 none, Cond.methodLink RX9 207 yX9_putDay, Cond.instanceMethod yX9_putDay, Cond.selects RX9 yX9_putDay yX9_putDay, Cond.code yX9_putDay cX9_putDay 7 none, Cond.methodLink RL 91 yX8_work, Cond.instanceMethod yX8_work, Cond.selects RX8 yX8_work yX8_work, Cond.code yX8_work cX8_work 3 (some .boolean), Cond.fieldLink RX8 229 "HoursBank$Sheet" "told" "[I", Cond.methodLink RX8 232 yX8_tell, Cond.instanceMethod yX8_tell, Cond.selects RX8 yX8_tell yX8_tell, Cond.code yX8_tell cX8_tell 4 none, Cond.methodLink RL 95 yX9_work, Cond.instanceMethod yX9_work, Cond.selects RX9 yX9_work yX9_work, Cond.code yX9_work cX9_work 3 (some .boolean), Cond.methodLink RL 96 yX8_sick, Cond.instanceMethod yX8_sick, Cond.selects RX8 yX8_sick yX8_sick]
def wsL_law0_r36 : List Cond := [Cond.code yX8_sick cX8_sick 4 (some .boolean), Cond.methodLink RL 100 yX9_sick, Cond.instanceMethod yX9_sick, Cond.selects RX9 yX9_sick yX9_sick, Cond.code yX9_sick cX9_sick 4 (some .boolean), Cond.methodLink RL 101 yX8_book, Cond.instanceMethod yX8_book, Cond.selects RX8 yX8_book yX8_book, Cond.code yX8_book cX8_book 6 (some .int), Cond.methodLink RL 105 yX9_book, Cond.instanceMethod yX9_book, Cond.selects RX9 yX9_book yX9_book, Cond.code yX9_book cX9_book 4 (some .int), Cond.methodLink RL 106 yX8_endDay, Cond.instanceMethod yX8_endDay, Cond.selects RX8 yX8_endDay yX8_endDay, Cond.code yX8_endDay cX8_endDay 3 (some .int), Cond.methodLink RX8 236 yX1_remember, Cond.methodLink RX8 240 yX3_closeDay, Cond.instanceMethod yX3_closeDay, Cond.selects RX3 yX3_closeDay yX3_closeDay, Cond.code yX3_closeDay cX3_closeDay 2 (some .boolean), Cond.fieldLink RX3 123 "HoursBank$Account" "flaggedDays" "I", Cond.methodLink RX3 113 yX3_addToBalance]
def wsL_law0_r37 : List Cond := [Cond.instanceMethod yX3_addToBalance, Cond.selects RX3 yX3_addToBalance yX3_addToBalance, Cond.code yX3_addToBalance cX3_addToBalance 5 none, Cond.fieldLink RX3 126 "HoursBank$Account" "overtime" "I", Cond.fieldLink RX3 129 "HoursBank$Account" "overtimeCoins" "I", Cond.fieldLink RX3 132 "HoursBank$Account" "docked" "I", Cond.fieldLink RX3 135 "HoursBank$Account" "dockedCoins" "I", Cond.methodLink RX3 117 yX3_windowLoad, Cond.methodLink RX3 120 yX2_limit, Cond.methodLink RL 109 yX9_endDay, Cond.instanceMethod yX9_endDay, Cond.selects RX9 yX9_endDay yX9_endDay, Cond.code yX9_endDay cX9_endDay 3 (some .int), Cond.methodLink RX9 211 yX9_closes, Cond.instanceMethod yX9_closes, Cond.selects RX9 yX9_closes yX9_closes, Cond.code yX9_closes cX9_closes 5 (some .boolean), Cond.methodLink RL 110 yL_leave, Cond.static yL_leave, Cond.codeWith yL_leave cL_leave 4 (some .int) [(0, 9, 12, 13)], Cond.methodLink RL 19 yX8_leave, Cond.instanceMethod yX8_leave, Cond.selects RX8 yX8_leave yX8_leave, Cond.code yX8_leave cX8_leave 3 (some .int)]
def wsL_law0_r38 : List Cond := [Cond.fieldLink RX8 243 "HoursBank$Account" "goneOn" "I", Cond.methodLink RL 112 yX9_leave, Cond.instanceMethod yX9_leave, Cond.selects RX9 yX9_leave yX9_leave, Cond.code yX9_leave cX9_leave 4 (some .int), Cond.methodLink RL 113 yX8_undo, Cond.instanceMethod yX8_undo, Cond.selects RX8 yX8_undo yX8_undo, Cond.code yX8_undo cX8_undo 1 (some .int), Cond.methodLink RX8 246 yX1_takeBack, Cond.instanceMethod yX1_takeBack, Cond.selects RX1 yX1_takeBack yX1_takeBack, Cond.code yX1_takeBack cX1_takeBack 4 (some .int), Cond.fieldLink RX1 75 "HoursBank$Sheet" "flagged" "[Z", Cond.methodLink RL 116 yX9_undo, Cond.instanceMethod yX9_undo, Cond.selects RX9 yX9_undo yX9_undo, Cond.code yX9_undo cX9_undo 2 (some .int)]
def wsL_law0 : List Cond := (wsL_law0_r1 ++ (wsL_law0_r2 ++ (wsL_law0_r3 ++ (wsL_law0_r4 ++ (wsL_law0_r5 ++ (wsL_law0_r6 ++ (wsL_law0_r7 ++ (wsL_law0_r8 ++ (wsL_law0_r9 ++ (wsL_law0_r10 ++ (wsL_law0_r11 ++ (wsL_law0_r12 ++ (wsL_law0_r13 ++ (wsL_law0_r14 ++ (wsL_law0_r15 ++ (wsL_law0_r16 ++ (wsL_law0_r17 ++ (wsL_law0_r18 ++ (wsL_law0_r19 ++ (wsL_law0_r20 ++ (wsL_law0_r21 ++ (wsL_law0_r22 ++ (wsL_law0_r23 ++ (wsL_law0_r24 ++ (wsL_law0_r25 ++ (wsL_law0_r26 ++ (wsL_law0_r27 ++ (wsL_law0_r28 ++ (wsL_law0_r29 ++ (wsL_law0_r30 ++ (wsL_law0_r31 ++ (wsL_law0_r32 ++ (wsL_law0_r33 ++ (wsL_law0_r34 ++ (wsL_law0_r35 ++ (wsL_law0_r36 ++ (wsL_law0_r37 ++ wsL_law0_r38))))))))))))))))))))))))))))))))))))) ++ wsX80 ++ wsX90 ++ wsX50 ++ wsX60 ++ wsX20 ++ wsX30 ++ wsX10 ++ wsX70 ++ wsX00 ++ wsX40 ++ ([] : List Cond)
def wsL_law : List Cond := wsL_law0 ++ (vx_atS RX8 109 "java/util/NoSuchElementException" ["java/lang/RuntimeException", "java/lang/Exception"]).filter goodWord
theorem inlX0 : ∀ w ∈ wsX00, w ∈ wsL_law := fun _ h => List.mem_append_left _ (List.mem_append_left _ (List.mem_append_left _ (List.mem_append_right _ h)))
theorem inlX1 : ∀ w ∈ wsX10, w ∈ wsL_law := fun _ h => List.mem_append_left _ (List.mem_append_left _ (List.mem_append_left _ (List.mem_append_left _ (List.mem_append_left _ (List.mem_append_right _ h)))))
theorem inlX2 : ∀ w ∈ wsX20, w ∈ wsL_law := fun _ h => List.mem_append_left _ (List.mem_append_left _ (List.mem_append_left _ (List.mem_append_left _ (List.mem_append_left _ (List.mem_append_left _ (List.mem_append_left _ (List.mem_append_right _ h)))))))
theorem inlX3 : ∀ w ∈ wsX30, w ∈ wsL_law := fun _ h => List.mem_append_left _ (List.mem_append_left _ (List.mem_append_left _ (List.mem_append_left _ (List.mem_append_left _ (List.mem_append_left _ (List.mem_append_right _ h))))))
theorem inlX4 : ∀ w ∈ wsX40, w ∈ wsL_law := fun _ h => List.mem_append_left _ (List.mem_append_left _ (List.mem_append_right _ h))
theorem inlX5 : ∀ w ∈ wsX50, w ∈ wsL_law := fun _ h => List.mem_append_left _ (List.mem_append_left _ (List.mem_append_left _ (List.mem_append_left _ (List.mem_append_left _ (List.mem_append_left _ (List.mem_append_left _ (List.mem_append_left _ (List.mem_append_left _ (List.mem_append_right _ h)))))))))
theorem inlX6 : ∀ w ∈ wsX60, w ∈ wsL_law := fun _ h => List.mem_append_left _ (List.mem_append_left _ (List.mem_append_left _ (List.mem_append_left _ (List.mem_append_left _ (List.mem_append_left _ (List.mem_append_left _ (List.mem_append_left _ (List.mem_append_right _ h))))))))
theorem inlX7 : ∀ w ∈ wsX70, w ∈ wsL_law := fun _ h => List.mem_append_left _ (List.mem_append_left _ (List.mem_append_left _ (List.mem_append_left _ (List.mem_append_right _ h))))
theorem inlX8 : ∀ w ∈ wsX80, w ∈ wsL_law := fun _ h => List.mem_append_left _ (List.mem_append_left _ (List.mem_append_left _ (List.mem_append_left _ (List.mem_append_left _ (List.mem_append_left _ (List.mem_append_left _ (List.mem_append_left _ (List.mem_append_left _ (List.mem_append_left _ (List.mem_append_left _ (List.mem_append_right _ h)))))))))))
theorem inlX9 : ∀ w ∈ wsX90, w ∈ wsL_law := fun _ h => List.mem_append_left _ (List.mem_append_left _ (List.mem_append_left _ (List.mem_append_left _ (List.mem_append_left _ (List.mem_append_left _ (List.mem_append_left _ (List.mem_append_left _ (List.mem_append_left _ (List.mem_append_left _ (List.mem_append_right _ h))))))))))
theorem inJx145de : ∀ w ∈ wsJx145de0, w ∈ lw_tbl := by decide +kernel
theorem inJx9f9b0 : ∀ w ∈ wsJx9f9b00, w ∈ lw_tbl := by decide +kernel
theorem inJxb160c : ∀ w ∈ wsJxb160c0, w ∈ lw_tbl := by decide +kernel
theorem inJ9 : ∀ w ∈ wsJ90, w ∈ lw_tbl := by decide +kernel
theorem inJ0 : ∀ w ∈ wsJ00, w ∈ lw_tbl := by decide +kernel
theorem inJ1 : ∀ w ∈ wsJ10, w ∈ lw_tbl := by decide +kernel
theorem inJ2 : ∀ w ∈ wsJ20, w ∈ lw_tbl := by decide +kernel
theorem inJxfd54e : ∀ w ∈ wsJxfd54e0, w ∈ lw_tbl := by decide +kernel
theorem inJx3cf43 : ∀ w ∈ wsJx3cf430, w ∈ lw_tbl := by decide +kernel
theorem inJ7 : ∀ w ∈ wsJ70, w ∈ lw_tbl := by decide +kernel
theorem inJ3 : ∀ w ∈ wsJ30, w ∈ lw_tbl := by decide +kernel
theorem dX0_init_0 : decode cX0_init 0 = .ok (.aload_n 0, 1) := by decide +kernel
theorem dX0_init_1 : decode cX0_init 1 = .ok (.invokespecial 3, 3) := by decide +kernel
theorem dX0_init_4 : decode cX0_init 4 = .ok (.aload_n 0, 1) := by decide +kernel
theorem dX0_init_5 : decode cX0_init 5 = .ok (.sipush 365, 3) := by decide +kernel
theorem dX0_init_8 : decode cX0_init 8 = .ok (.putfield 11, 3) := by decide +kernel
theorem dX0_init_11 : decode cX0_init 11 = .ok (.return_, 1) := by decide +kernel
theorem dX0_clear_0 : decode cX0_clear 0 = .ok (.aload_n 0, 1) := by decide +kernel
theorem dX0_clear_1 : decode cX0_clear 1 = .ok (.iconst 0, 1) := by decide +kernel
theorem dX0_clear_2 : decode cX0_clear 2 = .ok (.putfield 15, 3) := by decide +kernel
theorem dX0_clear_5 : decode cX0_clear 5 = .ok (.aload_n 0, 1) := by decide +kernel
theorem dX0_clear_6 : decode cX0_clear 6 = .ok (.iconst 0, 1) := by decide +kernel
theorem dX0_clear_7 : decode cX0_clear 7 = .ok (.putfield 18, 3) := by decide +kernel
theorem dX0_clear_10 : decode cX0_clear 10 = .ok (.aload_n 0, 1) := by decide +kernel
theorem dX0_clear_11 : decode cX0_clear 11 = .ok (.iconst 0, 1) := by decide +kernel
theorem dX0_clear_12 : decode cX0_clear 12 = .ok (.putfield 21, 3) := by decide +kernel
theorem dX0_clear_15 : decode cX0_clear 15 = .ok (.aload_n 0, 1) := by decide +kernel
theorem dX0_clear_16 : decode cX0_clear 16 = .ok (.iconst 0, 1) := by decide +kernel
theorem dX0_clear_17 : decode cX0_clear 17 = .ok (.putfield 24, 3) := by decide +kernel
theorem dX0_clear_20 : decode cX0_clear 20 = .ok (.aload_n 0, 1) := by decide +kernel
theorem dX0_clear_21 : decode cX0_clear 21 = .ok (.iconst 0, 1) := by decide +kernel
theorem dX0_clear_22 : decode cX0_clear 22 = .ok (.putfield 27, 3) := by decide +kernel
theorem dX0_clear_25 : decode cX0_clear 25 = .ok (.aload_n 0, 1) := by decide +kernel
theorem dX0_clear_26 : decode cX0_clear 26 = .ok (.iconst 0, 1) := by decide +kernel
theorem dX0_clear_27 : decode cX0_clear 27 = .ok (.putfield 30, 3) := by decide +kernel
theorem dX0_clear_30 : decode cX0_clear 30 = .ok (.aload_n 0, 1) := by decide +kernel
theorem dX0_clear_31 : decode cX0_clear 31 = .ok (.iconst 0, 1) := by decide +kernel
theorem dX0_clear_32 : decode cX0_clear 32 = .ok (.putfield 33, 3) := by decide +kernel
theorem dX0_clear_35 : decode cX0_clear 35 = .ok (.aload_n 0, 1) := by decide +kernel
theorem dX0_clear_36 : decode cX0_clear 36 = .ok (.iconst 0, 1) := by decide +kernel
theorem dX0_clear_37 : decode cX0_clear 37 = .ok (.putfield 36, 3) := by decide +kernel
theorem dX0_clear_40 : decode cX0_clear 40 = .ok (.aload_n 0, 1) := by decide +kernel
theorem dX0_clear_41 : decode cX0_clear 41 = .ok (.sipush 365, 3) := by decide +kernel
theorem dX0_clear_44 : decode cX0_clear 44 = .ok (.putfield 11, 3) := by decide +kernel
theorem dX0_clear_47 : decode cX0_clear 47 = .ok (.return_, 1) := by decide +kernel
theorem dX0_copyFrom_0 : decode cX0_copyFrom 0 = .ok (.aload_n 0, 1) := by decide +kernel
theorem dX0_copyFrom_1 : decode cX0_copyFrom 1 = .ok (.aload_n 1, 1) := by decide +kernel
theorem dX0_copyFrom_2 : decode cX0_copyFrom 2 = .ok (.getfield 15, 3) := by decide +kernel
theorem dX0_copyFrom_5 : decode cX0_copyFrom 5 = .ok (.putfield 15, 3) := by decide +kernel
theorem dX0_copyFrom_8 : decode cX0_copyFrom 8 = .ok (.aload_n 0, 1) := by decide +kernel
theorem dX0_copyFrom_9 : decode cX0_copyFrom 9 = .ok (.aload_n 1, 1) := by decide +kernel
theorem dX0_copyFrom_10 : decode cX0_copyFrom 10 = .ok (.getfield 18, 3) := by decide +kernel
theorem dX0_copyFrom_13 : decode cX0_copyFrom 13 = .ok (.putfield 18, 3) := by decide +kernel
theorem dX0_copyFrom_16 : decode cX0_copyFrom 16 = .ok (.aload_n 0, 1) := by decide +kernel
theorem dX0_copyFrom_17 : decode cX0_copyFrom 17 = .ok (.aload_n 1, 1) := by decide +kernel
theorem dX0_copyFrom_18 : decode cX0_copyFrom 18 = .ok (.getfield 21, 3) := by decide +kernel
theorem dX0_copyFrom_21 : decode cX0_copyFrom 21 = .ok (.putfield 21, 3) := by decide +kernel
theorem dX0_copyFrom_24 : decode cX0_copyFrom 24 = .ok (.aload_n 0, 1) := by decide +kernel
theorem dX0_copyFrom_25 : decode cX0_copyFrom 25 = .ok (.aload_n 1, 1) := by decide +kernel
theorem dX0_copyFrom_26 : decode cX0_copyFrom 26 = .ok (.getfield 24, 3) := by decide +kernel
theorem dX0_copyFrom_29 : decode cX0_copyFrom 29 = .ok (.putfield 24, 3) := by decide +kernel
theorem dX0_copyFrom_32 : decode cX0_copyFrom 32 = .ok (.aload_n 0, 1) := by decide +kernel
theorem dX0_copyFrom_33 : decode cX0_copyFrom 33 = .ok (.aload_n 1, 1) := by decide +kernel
theorem dX0_copyFrom_34 : decode cX0_copyFrom 34 = .ok (.getfield 27, 3) := by decide +kernel
theorem dX0_copyFrom_37 : decode cX0_copyFrom 37 = .ok (.putfield 27, 3) := by decide +kernel
theorem dX0_copyFrom_40 : decode cX0_copyFrom 40 = .ok (.aload_n 0, 1) := by decide +kernel
theorem dX0_copyFrom_41 : decode cX0_copyFrom 41 = .ok (.aload_n 1, 1) := by decide +kernel
theorem dX0_copyFrom_42 : decode cX0_copyFrom 42 = .ok (.getfield 30, 3) := by decide +kernel
theorem dX0_copyFrom_45 : decode cX0_copyFrom 45 = .ok (.putfield 30, 3) := by decide +kernel
theorem dX0_copyFrom_48 : decode cX0_copyFrom 48 = .ok (.aload_n 0, 1) := by decide +kernel
theorem dX0_copyFrom_49 : decode cX0_copyFrom 49 = .ok (.aload_n 1, 1) := by decide +kernel
theorem dX0_copyFrom_50 : decode cX0_copyFrom 50 = .ok (.getfield 33, 3) := by decide +kernel
theorem dX0_copyFrom_53 : decode cX0_copyFrom 53 = .ok (.putfield 33, 3) := by decide +kernel
theorem dX0_copyFrom_56 : decode cX0_copyFrom 56 = .ok (.aload_n 0, 1) := by decide +kernel
theorem dX0_copyFrom_57 : decode cX0_copyFrom 57 = .ok (.aload_n 1, 1) := by decide +kernel
theorem dX0_copyFrom_58 : decode cX0_copyFrom 58 = .ok (.getfield 36, 3) := by decide +kernel
theorem dX0_copyFrom_61 : decode cX0_copyFrom 61 = .ok (.putfield 36, 3) := by decide +kernel
theorem dX0_copyFrom_64 : decode cX0_copyFrom 64 = .ok (.aload_n 0, 1) := by decide +kernel
theorem dX0_copyFrom_65 : decode cX0_copyFrom 65 = .ok (.aload_n 1, 1) := by decide +kernel
theorem dX0_copyFrom_66 : decode cX0_copyFrom 66 = .ok (.getfield 11, 3) := by decide +kernel
theorem dX0_copyFrom_69 : decode cX0_copyFrom 69 = .ok (.putfield 11, 3) := by decide +kernel
theorem dX0_copyFrom_72 : decode cX0_copyFrom 72 = .ok (.return_, 1) := by decide +kernel
theorem dX0_isGone_0 : decode cX0_isGone 0 = .ok (.aload_n 0, 1) := by decide +kernel
theorem dX0_isGone_1 : decode cX0_isGone 1 = .ok (.getfield 11, 3) := by decide +kernel
theorem dX0_isGone_4 : decode cX0_isGone 4 = .ok (.sipush 365, 3) := by decide +kernel
theorem dX0_isGone_7 : decode cX0_isGone 7 = .ok (.if_icmp .eq 7, 3) := by decide +kernel
theorem dX0_isGone_10 : decode cX0_isGone 10 = .ok (.iconst 1, 1) := by decide +kernel
theorem dX0_isGone_11 : decode cX0_isGone 11 = .ok (.goto 4, 3) := by decide +kernel
theorem dX0_isGone_14 : decode cX0_isGone 14 = .ok (.iconst 0, 1) := by decide +kernel
theorem dX0_isGone_15 : decode cX0_isGone 15 = .ok (.ireturn, 1) := by decide +kernel
theorem dX0_coinsPaid_0 : decode cX0_coinsPaid 0 = .ok (.aload_n 0, 1) := by decide +kernel
theorem dX0_coinsPaid_1 : decode cX0_coinsPaid 1 = .ok (.getfield 24, 3) := by decide +kernel
theorem dX0_coinsPaid_4 : decode cX0_coinsPaid 4 = .ok (.aload_n 0, 1) := by decide +kernel
theorem dX0_coinsPaid_5 : decode cX0_coinsPaid 5 = .ok (.getfield 27, 3) := by decide +kernel
theorem dX0_coinsPaid_8 : decode cX0_coinsPaid 8 = .ok (.iadd, 1) := by decide +kernel
theorem dX0_coinsPaid_9 : decode cX0_coinsPaid 9 = .ok (.aload_n 0, 1) := by decide +kernel
theorem dX0_coinsPaid_10 : decode cX0_coinsPaid 10 = .ok (.getfield 33, 3) := by decide +kernel
theorem dX0_coinsPaid_13 : decode cX0_coinsPaid 13 = .ok (.iadd, 1) := by decide +kernel
theorem dX0_coinsPaid_14 : decode cX0_coinsPaid 14 = .ok (.aload_n 0, 1) := by decide +kernel
theorem dX0_coinsPaid_15 : decode cX0_coinsPaid 15 = .ok (.getfield 30, 3) := by decide +kernel
theorem dX0_coinsPaid_18 : decode cX0_coinsPaid 18 = .ok (.isub, 1) := by decide +kernel
theorem dX0_coinsPaid_19 : decode cX0_coinsPaid 19 = .ok (.ireturn, 1) := by decide +kernel
set_option maxRecDepth 20000 in
theorem ggX1_init_X4_init : GoodIn wsX1_init wsX4_init := goodIn_r _ [10, 11, 2, 3, 12, 13, 14, 15, 16, 17, 18, 19, 23, 24, 25, 26, 27, 28, 29, 30, 31, 32, 33, 34, 35, 36, 37] (by decide +kernel) (by decide +kernel)
set_option maxRecDepth 20000 in
theorem gX1_init_X4_init : GoodIn wsX1_init (wsX4_init) := ggX1_init_X4_init
theorem dX1_init_0 : decode cX1_init 0 = .ok (.aload_n 0, 1) := by decide +kernel
theorem dX1_init_1 : decode cX1_init 1 = .ok (.invokespecial 3, 3) := by decide +kernel
theorem dX1_init_4 : decode cX1_init 4 = .ok (.aload_n 0, 1) := by decide +kernel
theorem dX1_init_5 : decode cX1_init 5 = .ok (.bipush 10, 2) := by decide +kernel
theorem dX1_init_7 : decode cX1_init 7 = .ok (.anewarray 11, 3) := by decide +kernel
theorem dX1_init_10 : decode cX1_init 10 = .ok (.putfield 13, 3) := by decide +kernel
theorem dX1_init_13 : decode cX1_init 13 = .ok (.iconst 0, 1) := by decide +kernel
theorem dX1_init_14 : decode cX1_init 14 = .ok (.istore_n 1, 1) := by decide +kernel
theorem dX1_init_15 : decode cX1_init 15 = .ok (.iload_n 1, 1) := by decide +kernel
theorem dX1_init_16 : decode cX1_init 16 = .ok (.bipush 10, 2) := by decide +kernel
theorem dX1_init_18 : decode cX1_init 18 = .ok (.if_icmp .ge 22, 3) := by decide +kernel
theorem dX1_init_21 : decode cX1_init 21 = .ok (.aload_n 0, 1) := by decide +kernel
theorem dX1_init_22 : decode cX1_init 22 = .ok (.getfield 13, 3) := by decide +kernel
theorem dX1_init_25 : decode cX1_init 25 = .ok (.iload_n 1, 1) := by decide +kernel
theorem dX1_init_26 : decode cX1_init 26 = .ok (.new 11, 3) := by decide +kernel
theorem dX1_init_29 : decode cX1_init 29 = .ok (.dup, 1) := by decide +kernel
theorem dX1_init_30 : decode cX1_init 30 = .ok (.invokespecial 17, 3) := by decide +kernel
theorem dX1_init_33 : decode cX1_init 33 = .ok (.aastore, 1) := by decide +kernel
theorem dX1_init_34 : decode cX1_init 34 = .ok (.iinc 1 1, 3) := by decide +kernel
theorem dX1_init_37 : decode cX1_init 37 = .ok (.goto (-22), 3) := by decide +kernel
theorem dX1_init_40 : decode cX1_init 40 = .ok (.return_, 1) := by decide +kernel
set_option maxRecDepth 20000 in
theorem ggX1_remember_X0_copyFrom : GoodIn wsX1_remember wsX0_copyFrom := goodIn_r _ [16, 17, 18, 19, 20, 21, 22, 23, 24, 25, 42, 43, 44, 45, 46, 47, 48, 49, 50] (by decide +kernel) (by decide +kernel)
set_option maxRecDepth 20000 in
theorem gX1_remember_X0_copyFrom : GoodIn wsX1_remember (wsV RX1 38 RX0 yX0_copyFrom wsX0_copyFrom) := goodIn_app (goodIn_of _ (by decide +kernel)) ggX1_remember_X0_copyFrom
theorem dX1_remember_0 : decode cX1_remember 0 = .ok (.aload_n 0, 1) := by decide +kernel
theorem dX1_remember_1 : decode cX1_remember 1 = .ok (.getfield 13, 3) := by decide +kernel
theorem dX1_remember_4 : decode cX1_remember 4 = .ok (.aload_n 0, 1) := by decide +kernel
theorem dX1_remember_5 : decode cX1_remember 5 = .ok (.getfield 18, 3) := by decide +kernel
theorem dX1_remember_8 : decode cX1_remember 8 = .ok (.aaload, 1) := by decide +kernel
theorem dX1_remember_9 : decode cX1_remember 9 = .ok (.astore_n 3, 1) := by decide +kernel
theorem dX1_remember_10 : decode cX1_remember 10 = .ok (.aload_n 3, 1) := by decide +kernel
theorem dX1_remember_11 : decode cX1_remember 11 = .ok (.iload_n 1, 1) := by decide +kernel
theorem dX1_remember_12 : decode cX1_remember 12 = .ok (.putfield 22, 3) := by decide +kernel
theorem dX1_remember_15 : decode cX1_remember 15 = .ok (.aload_n 3, 1) := by decide +kernel
theorem dX1_remember_16 : decode cX1_remember 16 = .ok (.iconst (-1), 1) := by decide +kernel
theorem dX1_remember_17 : decode cX1_remember 17 = .ok (.putfield 25, 3) := by decide +kernel
theorem dX1_remember_20 : decode cX1_remember 20 = .ok (.iconst 0, 1) := by decide +kernel
theorem dX1_remember_21 : decode cX1_remember 21 = .ok (.istore 4, 2) := by decide +kernel
theorem dX1_remember_23 : decode cX1_remember 23 = .ok (.iload 4, 2) := by decide +kernel
theorem dX1_remember_25 : decode cX1_remember 25 = .ok (.iconst 4, 1) := by decide +kernel
theorem dX1_remember_26 : decode cX1_remember 26 = .ok (.if_icmp .ge 26, 3) := by decide +kernel
theorem dX1_remember_29 : decode cX1_remember 29 = .ok (.aload_n 3, 1) := by decide +kernel
theorem dX1_remember_30 : decode cX1_remember 30 = .ok (.getfield 28, 3) := by decide +kernel
theorem dX1_remember_33 : decode cX1_remember 33 = .ok (.iload 4, 2) := by decide +kernel
theorem dX1_remember_35 : decode cX1_remember 35 = .ok (.aaload, 1) := by decide +kernel
theorem dX1_remember_36 : decode cX1_remember 36 = .ok (.aload_n 2, 1) := by decide +kernel
theorem dX1_remember_37 : decode cX1_remember 37 = .ok (.iload 4, 2) := by decide +kernel
theorem dX1_remember_39 : decode cX1_remember 39 = .ok (.aaload, 1) := by decide +kernel
theorem dX1_remember_40 : decode cX1_remember 40 = .ok (.getfield 32, 3) := by decide +kernel
theorem dX1_remember_43 : decode cX1_remember 43 = .ok (.invokevirtual 38, 3) := by decide +kernel
theorem dX1_remember_46 : decode cX1_remember 46 = .ok (.iinc 4 1, 3) := by decide +kernel
theorem dX1_remember_49 : decode cX1_remember 49 = .ok (.goto (-26), 3) := by decide +kernel
theorem dX1_remember_52 : decode cX1_remember 52 = .ok (.aload_n 0, 1) := by decide +kernel
theorem dX1_remember_53 : decode cX1_remember 53 = .ok (.aload_n 0, 1) := by decide +kernel
theorem dX1_remember_54 : decode cX1_remember 54 = .ok (.getfield 18, 3) := by decide +kernel
theorem dX1_remember_57 : decode cX1_remember 57 = .ok (.iconst 1, 1) := by decide +kernel
theorem dX1_remember_58 : decode cX1_remember 58 = .ok (.iadd, 1) := by decide +kernel
theorem dX1_remember_59 : decode cX1_remember 59 = .ok (.bipush 10, 2) := by decide +kernel
theorem dX1_remember_61 : decode cX1_remember 61 = .ok (.irem, 1) := by decide +kernel
theorem dX1_remember_62 : decode cX1_remember 62 = .ok (.putfield 18, 3) := by decide +kernel
theorem dX1_remember_65 : decode cX1_remember 65 = .ok (.aload_n 0, 1) := by decide +kernel
theorem dX1_remember_66 : decode cX1_remember 66 = .ok (.aload_n 0, 1) := by decide +kernel
theorem dX1_remember_67 : decode cX1_remember 67 = .ok (.getfield 44, 3) := by decide +kernel
theorem dX1_remember_70 : decode cX1_remember 70 = .ok (.iconst 1, 1) := by decide +kernel
theorem dX1_remember_71 : decode cX1_remember 71 = .ok (.iadd, 1) := by decide +kernel
theorem dX1_remember_72 : decode cX1_remember 72 = .ok (.bipush 10, 2) := by decide +kernel
theorem dX1_remember_74 : decode cX1_remember 74 = .ok (.invokestatic 47, 3) := by decide +kernel
theorem dX1_remember_77 : decode cX1_remember 77 = .ok (.putfield 44, 3) := by decide +kernel
theorem dX1_remember_80 : decode cX1_remember 80 = .ok (.aload_n 3, 1) := by decide +kernel
theorem dX1_remember_81 : decode cX1_remember 81 = .ok (.areturn, 1) := by decide +kernel
set_option maxRecDepth 20000 in
theorem ggX1_rememberDay_X1_remember : GoodIn wsX1_rememberDay wsX1_remember := goodIn_r _ [11, 12, 13, 14, 1, 15, 16, 17, 18, 19, 20, 21, 22, 23, 24, 25, 26, 27, 28, 29, 30, 31, 32, 33, 34, 35, 49, 50, 51, 36, 37, 38, 39, 40, 41, 42, 43, 44, 45, 46, 47, 48, 52, 53, 54, 55, 56, 57, 58, 59, 60] (by decide +kernel) (by decide +kernel)
set_option maxRecDepth 20000 in
theorem gX1_rememberDay_X1_remember : GoodIn wsX1_rememberDay (wsV RX1 53 RX1 yX1_remember wsX1_remember) := goodIn_app (goodIn_of _ (by decide +kernel)) ggX1_rememberDay_X1_remember
theorem dX1_rememberDay_0 : decode cX1_rememberDay 0 = .ok (.aload_n 0, 1) := by decide +kernel
theorem dX1_rememberDay_1 : decode cX1_rememberDay 1 = .ok (.iload_n 1, 1) := by decide +kernel
theorem dX1_rememberDay_2 : decode cX1_rememberDay 2 = .ok (.aload_n 2, 1) := by decide +kernel
theorem dX1_rememberDay_3 : decode cX1_rememberDay 3 = .ok (.invokevirtual 53, 3) := by decide +kernel
theorem dX1_rememberDay_6 : decode cX1_rememberDay 6 = .ok (.astore 5, 2) := by decide +kernel
theorem dX1_rememberDay_8 : decode cX1_rememberDay 8 = .ok (.aload 5, 2) := by decide +kernel
theorem dX1_rememberDay_10 : decode cX1_rememberDay 10 = .ok (.iload_n 3, 1) := by decide +kernel
theorem dX1_rememberDay_11 : decode cX1_rememberDay 11 = .ok (.putfield 25, 3) := by decide +kernel
theorem dX1_rememberDay_14 : decode cX1_rememberDay 14 = .ok (.aload 5, 2) := by decide +kernel
theorem dX1_rememberDay_16 : decode cX1_rememberDay 16 = .ok (.iload 4, 2) := by decide +kernel
theorem dX1_rememberDay_18 : decode cX1_rememberDay 18 = .ok (.putfield 57, 3) := by decide +kernel
theorem dX1_rememberDay_21 : decode cX1_rememberDay 21 = .ok (.aload 5, 2) := by decide +kernel
theorem dX1_rememberDay_23 : decode cX1_rememberDay 23 = .ok (.aload_n 2, 1) := by decide +kernel
theorem dX1_rememberDay_24 : decode cX1_rememberDay 24 = .ok (.iload_n 3, 1) := by decide +kernel
theorem dX1_rememberDay_25 : decode cX1_rememberDay 25 = .ok (.aaload, 1) := by decide +kernel
theorem dX1_rememberDay_26 : decode cX1_rememberDay 26 = .ok (.getfield 60, 3) := by decide +kernel
theorem dX1_rememberDay_29 : decode cX1_rememberDay 29 = .ok (.iload 4, 2) := by decide +kernel
theorem dX1_rememberDay_31 : decode cX1_rememberDay 31 = .ok (.iaload, 1) := by decide +kernel
theorem dX1_rememberDay_32 : decode cX1_rememberDay 32 = .ok (.putfield 64, 3) := by decide +kernel
theorem dX1_rememberDay_35 : decode cX1_rememberDay 35 = .ok (.aload 5, 2) := by decide +kernel
theorem dX1_rememberDay_37 : decode cX1_rememberDay 37 = .ok (.aload_n 2, 1) := by decide +kernel
theorem dX1_rememberDay_38 : decode cX1_rememberDay 38 = .ok (.iload_n 3, 1) := by decide +kernel
theorem dX1_rememberDay_39 : decode cX1_rememberDay 39 = .ok (.aaload, 1) := by decide +kernel
theorem dX1_rememberDay_40 : decode cX1_rememberDay 40 = .ok (.getfield 66, 3) := by decide +kernel
theorem dX1_rememberDay_43 : decode cX1_rememberDay 43 = .ok (.iload 4, 2) := by decide +kernel
theorem dX1_rememberDay_45 : decode cX1_rememberDay 45 = .ok (.iaload, 1) := by decide +kernel
theorem dX1_rememberDay_46 : decode cX1_rememberDay 46 = .ok (.putfield 69, 3) := by decide +kernel
theorem dX1_rememberDay_49 : decode cX1_rememberDay 49 = .ok (.return_, 1) := by decide +kernel
set_option maxRecDepth 20000 in
theorem ggX1_takeBack_X0_copyFrom : GoodIn wsX1_takeBack wsX0_copyFrom := goodIn_r _ [18, 19, 20, 21, 22, 23, 24, 25, 26, 27, 47, 48, 49, 50, 51, 52, 53, 54, 55] (by decide +kernel) (by decide +kernel)
set_option maxRecDepth 20000 in
theorem gX1_takeBack_X0_copyFrom : GoodIn wsX1_takeBack (wsV RX1 38 RX0 yX0_copyFrom wsX0_copyFrom) := goodIn_app (goodIn_of _ (by decide +kernel)) ggX1_takeBack_X0_copyFrom
set_option maxRecDepth 20000 in
theorem ggX1_takeBack_X8_isDay : GoodIn wsX1_takeBack wsX8_isDay := goodIn_r _ [30] (by decide +kernel) (by decide +kernel)
set_option maxRecDepth 20000 in
theorem gX1_takeBack_X8_isDay_n71 : GoodIn wsX1_takeBack (wsX8_isDay) := ggX1_takeBack_X8_isDay
theorem dX1_takeBack_0 : decode cX1_takeBack 0 = .ok (.aload_n 0, 1) := by decide +kernel
theorem dX1_takeBack_1 : decode cX1_takeBack 1 = .ok (.aload_n 0, 1) := by decide +kernel
theorem dX1_takeBack_2 : decode cX1_takeBack 2 = .ok (.getfield 18, 3) := by decide +kernel
theorem dX1_takeBack_5 : decode cX1_takeBack 5 = .ok (.bipush 10, 2) := by decide +kernel
theorem dX1_takeBack_7 : decode cX1_takeBack 7 = .ok (.iadd, 1) := by decide +kernel
theorem dX1_takeBack_8 : decode cX1_takeBack 8 = .ok (.iconst 1, 1) := by decide +kernel
theorem dX1_takeBack_9 : decode cX1_takeBack 9 = .ok (.isub, 1) := by decide +kernel
theorem dX1_takeBack_10 : decode cX1_takeBack 10 = .ok (.bipush 10, 2) := by decide +kernel
theorem dX1_takeBack_12 : decode cX1_takeBack 12 = .ok (.irem, 1) := by decide +kernel
theorem dX1_takeBack_13 : decode cX1_takeBack 13 = .ok (.putfield 18, 3) := by decide +kernel
theorem dX1_takeBack_16 : decode cX1_takeBack 16 = .ok (.aload_n 0, 1) := by decide +kernel
theorem dX1_takeBack_17 : decode cX1_takeBack 17 = .ok (.dup, 1) := by decide +kernel
theorem dX1_takeBack_18 : decode cX1_takeBack 18 = .ok (.getfield 44, 3) := by decide +kernel
theorem dX1_takeBack_21 : decode cX1_takeBack 21 = .ok (.iconst 1, 1) := by decide +kernel
theorem dX1_takeBack_22 : decode cX1_takeBack 22 = .ok (.isub, 1) := by decide +kernel
theorem dX1_takeBack_23 : decode cX1_takeBack 23 = .ok (.putfield 44, 3) := by decide +kernel
theorem dX1_takeBack_26 : decode cX1_takeBack 26 = .ok (.aload_n 0, 1) := by decide +kernel
theorem dX1_takeBack_27 : decode cX1_takeBack 27 = .ok (.getfield 13, 3) := by decide +kernel
theorem dX1_takeBack_30 : decode cX1_takeBack 30 = .ok (.aload_n 0, 1) := by decide +kernel
theorem dX1_takeBack_31 : decode cX1_takeBack 31 = .ok (.getfield 18, 3) := by decide +kernel
theorem dX1_takeBack_34 : decode cX1_takeBack 34 = .ok (.aaload, 1) := by decide +kernel
theorem dX1_takeBack_35 : decode cX1_takeBack 35 = .ok (.astore_n 2, 1) := by decide +kernel
theorem dX1_takeBack_36 : decode cX1_takeBack 36 = .ok (.iconst 0, 1) := by decide +kernel
theorem dX1_takeBack_37 : decode cX1_takeBack 37 = .ok (.istore_n 3, 1) := by decide +kernel
theorem dX1_takeBack_38 : decode cX1_takeBack 38 = .ok (.iload_n 3, 1) := by decide +kernel
theorem dX1_takeBack_39 : decode cX1_takeBack 39 = .ok (.iconst 4, 1) := by decide +kernel
theorem dX1_takeBack_40 : decode cX1_takeBack 40 = .ok (.if_icmp .ge 46, 3) := by decide +kernel
theorem dX1_takeBack_43 : decode cX1_takeBack 43 = .ok (.aload_n 1, 1) := by decide +kernel
theorem dX1_takeBack_44 : decode cX1_takeBack 44 = .ok (.iload_n 3, 1) := by decide +kernel
theorem dX1_takeBack_45 : decode cX1_takeBack 45 = .ok (.aaload, 1) := by decide +kernel
theorem dX1_takeBack_46 : decode cX1_takeBack 46 = .ok (.getfield 32, 3) := by decide +kernel
theorem dX1_takeBack_49 : decode cX1_takeBack 49 = .ok (.aload_n 2, 1) := by decide +kernel
theorem dX1_takeBack_50 : decode cX1_takeBack 50 = .ok (.getfield 28, 3) := by decide +kernel
theorem dX1_takeBack_53 : decode cX1_takeBack 53 = .ok (.iload_n 3, 1) := by decide +kernel
theorem dX1_takeBack_54 : decode cX1_takeBack 54 = .ok (.aaload, 1) := by decide +kernel
theorem dX1_takeBack_55 : decode cX1_takeBack 55 = .ok (.invokevirtual 38, 3) := by decide +kernel
theorem dX1_takeBack_58 : decode cX1_takeBack 58 = .ok (.aload_n 2, 1) := by decide +kernel
theorem dX1_takeBack_59 : decode cX1_takeBack 59 = .ok (.getfield 22, 3) := by decide +kernel
theorem dX1_takeBack_62 : decode cX1_takeBack 62 = .ok (.invokestatic 71, 3) := by decide +kernel
theorem dX1_takeBack_65 : decode cX1_takeBack 65 = .ok (.ifCond .eq 15, 3) := by decide +kernel
theorem dX1_takeBack_68 : decode cX1_takeBack 68 = .ok (.aload_n 1, 1) := by decide +kernel
theorem dX1_takeBack_69 : decode cX1_takeBack 69 = .ok (.iload_n 3, 1) := by decide +kernel
theorem dX1_takeBack_70 : decode cX1_takeBack 70 = .ok (.aaload, 1) := by decide +kernel
theorem dX1_takeBack_71 : decode cX1_takeBack 71 = .ok (.getfield 75, 3) := by decide +kernel
theorem dX1_takeBack_74 : decode cX1_takeBack 74 = .ok (.aload_n 2, 1) := by decide +kernel
theorem dX1_takeBack_75 : decode cX1_takeBack 75 = .ok (.getfield 22, 3) := by decide +kernel
theorem dX1_takeBack_78 : decode cX1_takeBack 78 = .ok (.iconst 0, 1) := by decide +kernel
theorem dX1_takeBack_79 : decode cX1_takeBack 79 = .ok (.bastore, 1) := by decide +kernel
theorem dX1_takeBack_80 : decode cX1_takeBack 80 = .ok (.iinc 3 1, 3) := by decide +kernel
theorem dX1_takeBack_83 : decode cX1_takeBack 83 = .ok (.goto (-45), 3) := by decide +kernel
theorem dX1_takeBack_86 : decode cX1_takeBack 86 = .ok (.aload_n 2, 1) := by decide +kernel
theorem dX1_takeBack_87 : decode cX1_takeBack 87 = .ok (.getfield 25, 3) := by decide +kernel
theorem dX1_takeBack_90 : decode cX1_takeBack 90 = .ok (.iconst (-1), 1) := by decide +kernel
theorem dX1_takeBack_91 : decode cX1_takeBack 91 = .ok (.if_icmp .eq 36, 3) := by decide +kernel
theorem dX1_takeBack_94 : decode cX1_takeBack 94 = .ok (.aload_n 1, 1) := by decide +kernel
theorem dX1_takeBack_95 : decode cX1_takeBack 95 = .ok (.aload_n 2, 1) := by decide +kernel
theorem dX1_takeBack_96 : decode cX1_takeBack 96 = .ok (.getfield 25, 3) := by decide +kernel
theorem dX1_takeBack_99 : decode cX1_takeBack 99 = .ok (.aaload, 1) := by decide +kernel
theorem dX1_takeBack_100 : decode cX1_takeBack 100 = .ok (.astore_n 3, 1) := by decide +kernel
theorem dX1_takeBack_101 : decode cX1_takeBack 101 = .ok (.aload_n 3, 1) := by decide +kernel
theorem dX1_takeBack_102 : decode cX1_takeBack 102 = .ok (.getfield 60, 3) := by decide +kernel
theorem dX1_takeBack_105 : decode cX1_takeBack 105 = .ok (.aload_n 2, 1) := by decide +kernel
theorem dX1_takeBack_106 : decode cX1_takeBack 106 = .ok (.getfield 57, 3) := by decide +kernel
theorem dX1_takeBack_109 : decode cX1_takeBack 109 = .ok (.aload_n 2, 1) := by decide +kernel
theorem dX1_takeBack_110 : decode cX1_takeBack 110 = .ok (.getfield 64, 3) := by decide +kernel
theorem dX1_takeBack_113 : decode cX1_takeBack 113 = .ok (.iastore, 1) := by decide +kernel
theorem dX1_takeBack_114 : decode cX1_takeBack 114 = .ok (.aload_n 3, 1) := by decide +kernel
theorem dX1_takeBack_115 : decode cX1_takeBack 115 = .ok (.getfield 66, 3) := by decide +kernel
theorem dX1_takeBack_118 : decode cX1_takeBack 118 = .ok (.aload_n 2, 1) := by decide +kernel
theorem dX1_takeBack_119 : decode cX1_takeBack 119 = .ok (.getfield 57, 3) := by decide +kernel
theorem dX1_takeBack_122 : decode cX1_takeBack 122 = .ok (.aload_n 2, 1) := by decide +kernel
theorem dX1_takeBack_123 : decode cX1_takeBack 123 = .ok (.getfield 69, 3) := by decide +kernel
theorem dX1_takeBack_126 : decode cX1_takeBack 126 = .ok (.iastore, 1) := by decide +kernel
theorem dX1_takeBack_127 : decode cX1_takeBack 127 = .ok (.aload_n 2, 1) := by decide +kernel
theorem dX1_takeBack_128 : decode cX1_takeBack 128 = .ok (.getfield 22, 3) := by decide +kernel
theorem dX1_takeBack_131 : decode cX1_takeBack 131 = .ok (.ireturn, 1) := by decide +kernel
set_option maxRecDepth 20000 in
theorem ggX2_init_X2_clear : GoodIn wsX2_init wsX2_clear := goodIn_r _ [15, 10, 6, 16, 17, 18, 19, 20, 21, 22, 23, 24] (by decide +kernel) (by decide +kernel)
set_option maxRecDepth 20000 in
theorem gX2_init_X2_clear : GoodIn wsX2_init (wsV RX2 29 RX2 yX2_clear wsX2_clear) := goodIn_app (goodIn_of _ (by decide +kernel)) ggX2_init_X2_clear
theorem dX2_init_0 : decode cX2_init 0 = .ok (.aload_n 0, 1) := by decide +kernel
theorem dX2_init_1 : decode cX2_init 1 = .ok (.invokespecial 3, 3) := by decide +kernel
theorem dX2_init_4 : decode cX2_init 4 = .ok (.aload_n 0, 1) := by decide +kernel
theorem dX2_init_5 : decode cX2_init 5 = .ok (.iconst 1, 1) := by decide +kernel
theorem dX2_init_6 : decode cX2_init 6 = .ok (.iconst 4, 1) := by decide +kernel
theorem dX2_init_7 : decode cX2_init 7 = .ok (.multianewarray 9 2, 4) := by decide +kernel
theorem dX2_init_11 : decode cX2_init 11 = .ok (.putfield 11, 3) := by decide +kernel
theorem dX2_init_14 : decode cX2_init 14 = .ok (.aload_n 0, 1) := by decide +kernel
theorem dX2_init_15 : decode cX2_init 15 = .ok (.iconst 5, 1) := by decide +kernel
theorem dX2_init_16 : decode cX2_init 16 = .ok (.bipush 9, 2) := by decide +kernel
theorem dX2_init_18 : decode cX2_init 18 = .ok (.multianewarray 9 2, 4) := by decide +kernel
theorem dX2_init_22 : decode cX2_init 22 = .ok (.putfield 16, 3) := by decide +kernel
theorem dX2_init_25 : decode cX2_init 25 = .ok (.aload_n 0, 1) := by decide +kernel
theorem dX2_init_26 : decode cX2_init 26 = .ok (.iconst 3, 1) := by decide +kernel
theorem dX2_init_27 : decode cX2_init 27 = .ok (.iconst 2, 1) := by decide +kernel
theorem dX2_init_28 : decode cX2_init 28 = .ok (.multianewarray 9 2, 4) := by decide +kernel
theorem dX2_init_32 : decode cX2_init 32 = .ok (.putfield 19, 3) := by decide +kernel
theorem dX2_init_35 : decode cX2_init 35 = .ok (.aload_n 0, 1) := by decide +kernel
theorem dX2_init_36 : decode cX2_init 36 = .ok (.iconst 4, 1) := by decide +kernel
theorem dX2_init_37 : decode cX2_init 37 = .ok (.iconst 2, 1) := by decide +kernel
theorem dX2_init_38 : decode cX2_init 38 = .ok (.multianewarray 9 2, 4) := by decide +kernel
theorem dX2_init_42 : decode cX2_init 42 = .ok (.putfield 22, 3) := by decide +kernel
theorem dX2_init_45 : decode cX2_init 45 = .ok (.aload_n 0, 1) := by decide +kernel
theorem dX2_init_46 : decode cX2_init 46 = .ok (.iconst 4, 1) := by decide +kernel
theorem dX2_init_47 : decode cX2_init 47 = .ok (.newarray .int, 2) := by decide +kernel
theorem dX2_init_49 : decode cX2_init 49 = .ok (.putfield 25, 3) := by decide +kernel
theorem dX2_init_52 : decode cX2_init 52 = .ok (.aload_n 0, 1) := by decide +kernel
theorem dX2_init_53 : decode cX2_init 53 = .ok (.invokevirtual 29, 3) := by decide +kernel
theorem dX2_init_56 : decode cX2_init 56 = .ok (.return_, 1) := by decide +kernel
set_option maxRecDepth 20000 in
theorem ggX2_clear_J7_fill_53178 : GoodIn wsX2_clear wsJ7_fill_53178 := goodIn_r _ [6] (by decide +kernel) (by decide +kernel)
set_option maxRecDepth 20000 in
theorem gX2_clear_J7_fill_53178 : GoodIn wsX2_clear (va_wsS RX2 32 yJ7_fill_53178 wsJ7_fill_53178) := goodIn_app (goodIn_of _ (by decide +kernel)) ggX2_clear_J7_fill_53178
theorem dX2_clear_0 : decode cX2_clear 0 = .ok (.aload_n 0, 1) := by decide +kernel
theorem dX2_clear_1 : decode cX2_clear 1 = .ok (.getfield 25, 3) := by decide +kernel
theorem dX2_clear_4 : decode cX2_clear 4 = .ok (.iconst 0, 1) := by decide +kernel
theorem dX2_clear_5 : decode cX2_clear 5 = .ok (.invokestatic 32, 3) := by decide +kernel
theorem dX2_clear_8 : decode cX2_clear 8 = .ok (.aload_n 0, 1) := by decide +kernel
theorem dX2_clear_9 : decode cX2_clear 9 = .ok (.getfield 11, 3) := by decide +kernel
theorem dX2_clear_12 : decode cX2_clear 12 = .ok (.iconst 0, 1) := by decide +kernel
theorem dX2_clear_13 : decode cX2_clear 13 = .ok (.aaload, 1) := by decide +kernel
theorem dX2_clear_14 : decode cX2_clear 14 = .ok (.iconst 0, 1) := by decide +kernel
theorem dX2_clear_15 : decode cX2_clear 15 = .ok (.invokestatic 32, 3) := by decide +kernel
theorem dX2_clear_18 : decode cX2_clear 18 = .ok (.aload_n 0, 1) := by decide +kernel
theorem dX2_clear_19 : decode cX2_clear 19 = .ok (.getfield 11, 3) := by decide +kernel
theorem dX2_clear_22 : decode cX2_clear 22 = .ok (.iconst 0, 1) := by decide +kernel
theorem dX2_clear_23 : decode cX2_clear 23 = .ok (.aaload, 1) := by decide +kernel
theorem dX2_clear_24 : decode cX2_clear 24 = .ok (.iconst 2, 1) := by decide +kernel
theorem dX2_clear_25 : decode cX2_clear 25 = .ok (.iconst 1, 1) := by decide +kernel
theorem dX2_clear_26 : decode cX2_clear 26 = .ok (.iastore, 1) := by decide +kernel
theorem dX2_clear_27 : decode cX2_clear 27 = .ok (.return_, 1) := by decide +kernel
theorem dX2_wordOf_0 : decode cX2_wordOf 0 = .ok (.iload_n 0, 1) := by decide +kernel
theorem dX2_wordOf_1 : decode cX2_wordOf 1 = .ok (.tableswitch 36 0 2 #[27, 30, 33], 27) := by decide +kernel
theorem dX2_wordOf_28 : decode cX2_wordOf 28 = .ok (.ldc 38, 2) := by decide +kernel
theorem dX2_wordOf_30 : decode cX2_wordOf 30 = .ok (.areturn, 1) := by decide +kernel
theorem dX2_wordOf_31 : decode cX2_wordOf 31 = .ok (.ldc 40, 2) := by decide +kernel
theorem dX2_wordOf_33 : decode cX2_wordOf 33 = .ok (.areturn, 1) := by decide +kernel
theorem dX2_wordOf_34 : decode cX2_wordOf 34 = .ok (.ldc 42, 2) := by decide +kernel
theorem dX2_wordOf_36 : decode cX2_wordOf 36 = .ok (.areturn, 1) := by decide +kernel
theorem dX2_wordOf_37 : decode cX2_wordOf 37 = .ok (.ldc 44, 2) := by decide +kernel
theorem dX2_wordOf_39 : decode cX2_wordOf 39 = .ok (.areturn, 1) := by decide +kernel
theorem dX2_rowsOf_0 : decode cX2_rowsOf 0 = .ok (.iload_n 1, 1) := by decide +kernel
theorem dX2_rowsOf_1 : decode cX2_rowsOf 1 = .ok (.tableswitch 42 0 2 #[27, 32, 37], 27) := by decide +kernel
theorem dX2_rowsOf_28 : decode cX2_rowsOf 28 = .ok (.aload_n 0, 1) := by decide +kernel
theorem dX2_rowsOf_29 : decode cX2_rowsOf 29 = .ok (.getfield 11, 3) := by decide +kernel
theorem dX2_rowsOf_32 : decode cX2_rowsOf 32 = .ok (.areturn, 1) := by decide +kernel
theorem dX2_rowsOf_33 : decode cX2_rowsOf 33 = .ok (.aload_n 0, 1) := by decide +kernel
theorem dX2_rowsOf_34 : decode cX2_rowsOf 34 = .ok (.getfield 16, 3) := by decide +kernel
theorem dX2_rowsOf_37 : decode cX2_rowsOf 37 = .ok (.areturn, 1) := by decide +kernel
theorem dX2_rowsOf_38 : decode cX2_rowsOf 38 = .ok (.aload_n 0, 1) := by decide +kernel
theorem dX2_rowsOf_39 : decode cX2_rowsOf 39 = .ok (.getfield 19, 3) := by decide +kernel
theorem dX2_rowsOf_42 : decode cX2_rowsOf 42 = .ok (.areturn, 1) := by decide +kernel
theorem dX2_rowsOf_43 : decode cX2_rowsOf 43 = .ok (.aload_n 0, 1) := by decide +kernel
theorem dX2_rowsOf_44 : decode cX2_rowsOf 44 = .ok (.getfield 22, 3) := by decide +kernel
theorem dX2_rowsOf_47 : decode cX2_rowsOf 47 = .ok (.areturn, 1) := by decide +kernel
theorem dX2_leastOf_0 : decode cX2_leastOf 0 = .ok (.iload_n 0, 1) := by decide +kernel
theorem dX2_leastOf_1 : decode cX2_leastOf 1 = .ok (.tableswitch 39 0 2 #[27, 31, 35], 27) := by decide +kernel
theorem dX2_leastOf_28 : decode cX2_leastOf 28 = .ok (.getstatic 46, 3) := by decide +kernel
theorem dX2_leastOf_31 : decode cX2_leastOf 31 = .ok (.areturn, 1) := by decide +kernel
theorem dX2_leastOf_32 : decode cX2_leastOf 32 = .ok (.getstatic 49, 3) := by decide +kernel
theorem dX2_leastOf_35 : decode cX2_leastOf 35 = .ok (.areturn, 1) := by decide +kernel
theorem dX2_leastOf_36 : decode cX2_leastOf 36 = .ok (.getstatic 52, 3) := by decide +kernel
theorem dX2_leastOf_39 : decode cX2_leastOf 39 = .ok (.areturn, 1) := by decide +kernel
theorem dX2_leastOf_40 : decode cX2_leastOf 40 = .ok (.getstatic 55, 3) := by decide +kernel
theorem dX2_leastOf_43 : decode cX2_leastOf 43 = .ok (.areturn, 1) := by decide +kernel
theorem dX2_mostOf_0 : decode cX2_mostOf 0 = .ok (.iload_n 0, 1) := by decide +kernel
theorem dX2_mostOf_1 : decode cX2_mostOf 1 = .ok (.tableswitch 39 0 2 #[27, 31, 35], 27) := by decide +kernel
theorem dX2_mostOf_28 : decode cX2_mostOf 28 = .ok (.getstatic 58, 3) := by decide +kernel
theorem dX2_mostOf_31 : decode cX2_mostOf 31 = .ok (.areturn, 1) := by decide +kernel
theorem dX2_mostOf_32 : decode cX2_mostOf 32 = .ok (.getstatic 61, 3) := by decide +kernel
theorem dX2_mostOf_35 : decode cX2_mostOf 35 = .ok (.areturn, 1) := by decide +kernel
theorem dX2_mostOf_36 : decode cX2_mostOf 36 = .ok (.getstatic 64, 3) := by decide +kernel
theorem dX2_mostOf_39 : decode cX2_mostOf 39 = .ok (.areturn, 1) := by decide +kernel
theorem dX2_mostOf_40 : decode cX2_mostOf 40 = .ok (.getstatic 67, 3) := by decide +kernel
theorem dX2_mostOf_43 : decode cX2_mostOf 43 = .ok (.areturn, 1) := by decide +kernel
set_option maxRecDepth 20000 in
theorem ggX2_isFull_X2_rowsOf : GoodIn wsX2_isFull wsX2_rowsOf := goodIn_r _ [6, 7, 8, 9, 10, 11, 12, 13, 14, 15] (by decide +kernel) (by decide +kernel)
set_option maxRecDepth 20000 in
theorem gX2_isFull_X2_rowsOf : GoodIn wsX2_isFull (wsV RX2 70 RX2 yX2_rowsOf wsX2_rowsOf) := goodIn_app (goodIn_of _ (by decide +kernel)) ggX2_isFull_X2_rowsOf
theorem dX2_isFull_0 : decode cX2_isFull 0 = .ok (.aload_n 0, 1) := by decide +kernel
theorem dX2_isFull_1 : decode cX2_isFull 1 = .ok (.getfield 25, 3) := by decide +kernel
theorem dX2_isFull_4 : decode cX2_isFull 4 = .ok (.iload_n 1, 1) := by decide +kernel
theorem dX2_isFull_5 : decode cX2_isFull 5 = .ok (.iaload, 1) := by decide +kernel
theorem dX2_isFull_6 : decode cX2_isFull 6 = .ok (.aload_n 0, 1) := by decide +kernel
theorem dX2_isFull_7 : decode cX2_isFull 7 = .ok (.iload_n 1, 1) := by decide +kernel
theorem dX2_isFull_8 : decode cX2_isFull 8 = .ok (.invokevirtual 70, 3) := by decide +kernel
theorem dX2_isFull_11 : decode cX2_isFull 11 = .ok (.arraylength, 1) := by decide +kernel
theorem dX2_isFull_12 : decode cX2_isFull 12 = .ok (.if_icmp .lt 7, 3) := by decide +kernel
theorem dX2_isFull_15 : decode cX2_isFull 15 = .ok (.iconst 1, 1) := by decide +kernel
theorem dX2_isFull_16 : decode cX2_isFull 16 = .ok (.goto 4, 3) := by decide +kernel
theorem dX2_isFull_19 : decode cX2_isFull 19 = .ok (.iconst 0, 1) := by decide +kernel
theorem dX2_isFull_20 : decode cX2_isFull 20 = .ok (.ireturn, 1) := by decide +kernel
set_option maxRecDepth 20000 in
theorem ggX2_openRow_X2_rowsOf : GoodIn wsX2_openRow wsX2_rowsOf := goodIn_r _ [6, 7, 8, 9, 10, 11, 12, 13, 14, 15] (by decide +kernel) (by decide +kernel)
set_option maxRecDepth 20000 in
theorem gX2_openRow_X2_rowsOf : GoodIn wsX2_openRow (wsV RX2 70 RX2 yX2_rowsOf wsX2_rowsOf) := goodIn_app (goodIn_of _ (by decide +kernel)) ggX2_openRow_X2_rowsOf
theorem dX2_openRow_0 : decode cX2_openRow 0 = .ok (.aload_n 0, 1) := by decide +kernel
theorem dX2_openRow_1 : decode cX2_openRow 1 = .ok (.iload_n 1, 1) := by decide +kernel
theorem dX2_openRow_2 : decode cX2_openRow 2 = .ok (.invokevirtual 70, 3) := by decide +kernel
theorem dX2_openRow_5 : decode cX2_openRow 5 = .ok (.aload_n 0, 1) := by decide +kernel
theorem dX2_openRow_6 : decode cX2_openRow 6 = .ok (.getfield 25, 3) := by decide +kernel
theorem dX2_openRow_9 : decode cX2_openRow 9 = .ok (.iload_n 1, 1) := by decide +kernel
theorem dX2_openRow_10 : decode cX2_openRow 10 = .ok (.iaload, 1) := by decide +kernel
theorem dX2_openRow_11 : decode cX2_openRow 11 = .ok (.aaload, 1) := by decide +kernel
theorem dX2_openRow_12 : decode cX2_openRow 12 = .ok (.astore_n 2, 1) := by decide +kernel
theorem dX2_openRow_13 : decode cX2_openRow 13 = .ok (.aload_n 0, 1) := by decide +kernel
