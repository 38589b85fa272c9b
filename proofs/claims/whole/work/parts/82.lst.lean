def wsX8_workerT : List Cond := .code yX8_worker cX8_worker 5 (some .int) :: ((wsX8_worker_r1 ++ (wsX8_worker_r2 ++ (wsX8_worker_r3 ++ wsX8_worker_r4))) ++ wsX80 ++ wsX30 ++ wsX00 ++ wsX20)
def wsX8_dueT : List Cond := .code yX8_due cX8_due 2 (some .int) :: ((wsX8_due_r1 ++ (wsX8_due_r2 ++ wsX8_due_r3)) ++ wsX80 ++ wsX30 ++ wsX20 ++ wsX00)
def wsX8_leaveT : List Cond := .code yX8_leave cX8_leave 3 (some .int) :: ((wsX8_leave_r1 ++ (wsX8_leave_r2 ++ (wsX8_leave_r3 ++ (wsX8_leave_r4 ++ wsX8_leave_r5)))) ++ wsX80 ++ wsX30 ++ wsX00 ++ wsX20 ++ wsX10 ++ wsX40)
def wsL_workerT : List Cond := .codeWith yL_worker cL_worker 5 (some .int) [(0, 10, 13, 13)] :: ((wsL_worker_r1 ++ (wsL_worker_r2 ++ (wsL_worker_r3 ++ wsL_worker_r4))) ++ wsX80 ++ wsX30 ++ wsX00 ++ wsX20)
def wsL_dueT : List Cond := .codeWith yL_due cL_due 4 (some .int) [(0, 9, 12, 13)] :: ((wsL_due_r1 ++ (wsL_due_r2 ++ wsL_due_r3)) ++ wsX80 ++ wsX30 ++ wsX20 ++ wsX00)
def wsL_leaveT : List Cond := .codeWith yL_leave cL_leave 4 (some .int) [(0, 9, 12, 13)] :: ((wsL_leave_r1 ++ (wsL_leave_r2 ++ (wsL_leave_r3 ++ (wsL_leave_r4 ++ wsL_leave_r5)))) ++ wsX80 ++ wsX30 ++ wsX00 ++ wsX20 ++ wsX10 ++ wsX40)
set_option maxRecDepth 100000 in
theorem ggX8_workerT_X8_isWorker : GoodIn wsX8_workerT wsX8_isWorker := goodIn_r _ [18, 19, 20, 21, 22, 23, 24, 25, 85, 86, 87, 88, 89, 90, 91, 108, 109, 110, 111, 112] (by decide +kernel) (by decide +kernel)
set_option maxRecDepth 100000 in
theorem gX8_workerT_X8_isWorker : GoodIn wsX8_workerT (wsV RX8 101 RX8 yX8_isWorker wsX8_isWorker) := goodIn_app (goodIn_of _ (by decide +kernel)) ggX8_workerT_X8_isWorker
set_option maxRecDepth 100000 in
theorem ggX8_workerT_X3_leaveLeft : GoodIn wsX8_workerT wsX3_leaveLeft := goodIn_r _ [30, 31, 32, 33, 34, 35, 36, 37, 38, 39, 40, 41, 29, 42, 43, 44, 45, 46, 47, 48, 49, 50, 51, 52, 53, 54, 55, 56, 57, 58, 59, 60, 61, 62, 63, 64, 65, 23, 66, 25, 67, 92, 93, 94, 95, 96, 97, 98, 99, 100, 101, 102, 103, 104, 105, 106, 107, 108, 109, 110, 111, 112] (by decide +kernel) (by decide +kernel)
set_option maxRecDepth 100000 in
theorem gX8_workerT_X3_leaveLeft : GoodIn wsX8_workerT (wsV RX8 121 RX3 yX3_leaveLeft wsX3_leaveLeft) := goodIn_app (goodIn_of _ (by decide +kernel)) ggX8_workerT_X3_leaveLeft
set_option maxRecDepth 100000 in
theorem ggX8_workerT_X3_workedBefore : GoodIn wsX8_workerT wsX3_workedBefore := goodIn_r _ [71, 72, 73, 74, 29, 75, 47, 76, 77, 78, 79, 92, 93, 94, 95, 96, 97, 98] (by decide +kernel) (by decide +kernel)
set_option maxRecDepth 100000 in
theorem gX8_workerT_X3_workedBefore : GoodIn wsX8_workerT (wsV RX8 142 RX3 yX3_workedBefore wsX3_workedBefore) := goodIn_app (goodIn_of _ (by decide +kernel)) ggX8_workerT_X3_workedBefore
set_option maxRecDepth 100000 in
theorem ggX8_workerT_X3_sickDaysBefore : GoodIn wsX8_workerT wsX3_sickDaysBefore := goodIn_r _ [83, 43, 44, 45, 29, 46, 47, 48, 49, 50, 51, 31, 52, 92, 93, 94, 95, 96, 97, 98, 99, 100, 101, 102, 103, 104, 105, 106, 107] (by decide +kernel) (by decide +kernel)
set_option maxRecDepth 100000 in
theorem gX8_workerT_X3_sickDaysBefore : GoodIn wsX8_workerT (wsV RX8 146 RX3 yX3_sickDaysBefore wsX3_sickDaysBefore) := goodIn_app (goodIn_of _ (by decide +kernel)) ggX8_workerT_X3_sickDaysBefore
set_option maxRecDepth 100000 in
theorem ggX8_workerT_X0_isGone : GoodIn wsX8_workerT wsX0_isGone := goodIn_r _ [37, 38, 99, 100, 101, 102, 103, 104, 105, 106, 107] (by decide +kernel) (by decide +kernel)
set_option maxRecDepth 100000 in
theorem gX8_workerT_X0_isGone : GoodIn wsX8_workerT (wsV RX8 151 RX0 yX0_isGone wsX0_isGone) := goodIn_app (goodIn_of _ (by decide +kernel)) ggX8_workerT_X0_isGone
set_option maxRecDepth 100000 in
theorem ggX8_dueT_X8_isPresent : GoodIn wsX8_dueT wsX8_isPresent := goodIn_r _ [9, 3, 10, 11, 12, 13, 8, 14, 15, 16, 17, 18, 19, 20, 21, 22, 23, 24, 25, 26, 27, 66, 67, 68, 69, 70, 71, 72, 73, 74, 75, 76, 77, 78, 79, 80, 81, 82, 83, 84, 85, 86, 87, 88, 89, 90, 91, 92, 93] (by decide +kernel) (by decide +kernel)
set_option maxRecDepth 100000 in
theorem gX8_dueT_X8_isPresent : GoodIn wsX8_dueT (wsV RX8 186 RX8 yX8_isPresent wsX8_isPresent) := goodIn_app (goodIn_of _ (by decide +kernel)) ggX8_dueT_X8_isPresent
set_option maxRecDepth 100000 in
theorem ggX8_dueT_X3_settlementOn : GoodIn wsX8_dueT wsX3_settlementOn := goodIn_r _ [32, 33, 34, 35, 36, 37, 38, 39, 31, 40, 41, 42, 43, 44, 45, 46, 47, 48, 49, 50, 51, 52, 53, 54, 55, 56, 57, 58, 59, 60, 61, 62, 63, 19, 64, 21, 65, 73, 74, 75, 76, 77, 78, 79, 85, 86, 87, 88, 89, 90, 91, 92, 93, 80, 81, 82, 83, 84] (by decide +kernel) (by decide +kernel)
set_option maxRecDepth 100000 in
theorem gX8_dueT_X3_settlementOn : GoodIn wsX8_dueT (wsV RX8 211 RX3 yX3_settlementOn wsX3_settlementOn) := goodIn_app (goodIn_of _ (by decide +kernel)) ggX8_dueT_X3_settlementOn
set_option maxRecDepth 100000 in
theorem ggX8_leaveT_X8_isPresent : GoodIn wsX8_leaveT wsX8_isPresent := goodIn_r _ [14, 5, 6, 15, 16, 17, 13, 18, 19, 20, 21, 22, 23, 24, 25, 26, 27, 28, 29, 30, 31, 98, 99, 100, 101, 102, 103, 104, 105, 106, 107, 108, 109, 110, 111, 121, 122, 123, 124, 125, 112, 113, 114, 115, 116, 117, 118, 119, 120] (by decide +kernel) (by decide +kernel)
set_option maxRecDepth 100000 in
theorem gX8_leaveT_X8_isPresent : GoodIn wsX8_leaveT (wsV RX8 186 RX8 yX8_isPresent wsX8_isPresent) := goodIn_app (goodIn_of _ (by decide +kernel)) ggX8_leaveT_X8_isPresent
set_option maxRecDepth 100000 in
theorem ggX8_leaveT_X1_remember : GoodIn wsX8_leaveT wsX1_remember := goodIn_r _ [36, 37, 38, 39, 40, 41, 42, 43, 44, 45, 46, 47, 48, 49, 50, 29, 51, 52, 53, 54, 55, 56, 57, 58, 59, 31, 126, 127, 128, 129, 130, 131, 132, 133, 134, 105, 106, 107, 108, 109, 110, 111, 112, 113, 114, 115, 116, 117, 118, 119, 120] (by decide +kernel) (by decide +kernel)
set_option maxRecDepth 100000 in
theorem gX8_leaveT_X1_remember : GoodIn wsX8_leaveT (wsV RX8 236 RX1 yX1_remember wsX1_remember) := goodIn_app (goodIn_of _ (by decide +kernel)) ggX8_leaveT_X1_remember
set_option maxRecDepth 100000 in
theorem ggX8_leaveT_X3_settlementOn : GoodIn wsX8_leaveT wsX3_settlementOn := goodIn_r _ [64, 65, 66, 67, 68, 69, 70, 71, 63, 72, 73, 74, 75, 76, 77, 78, 79, 80, 81, 82, 83, 84, 85, 86, 87, 88, 89, 90, 91, 92, 93, 94, 95, 23, 96, 25, 97, 105, 106, 107, 108, 109, 110, 111, 112, 113, 114, 115, 116, 117, 118, 119, 120, 121, 122, 123, 124, 125] (by decide +kernel) (by decide +kernel)
set_option maxRecDepth 100000 in
theorem gX8_leaveT_X3_settlementOn : GoodIn wsX8_leaveT (wsV RX8 211 RX3 yX3_settlementOn wsX3_settlementOn) := goodIn_app (goodIn_of _ (by decide +kernel)) ggX8_leaveT_X3_settlementOn
set_option maxRecDepth 100000 in
theorem ggL_workerT_X8_worker : GoodIn wsL_workerT wsX8_workerT := goodIn_r _ [6, 7, 8, 9, 10, 11, 12, 13, 14, 15, 16, 17, 18, 19, 20, 21, 22, 5, 23, 24, 25, 26, 27, 28, 29, 30, 31, 32, 33, 34, 35, 36, 37, 38, 39, 40, 41, 42, 43, 44, 45, 46, 47, 48, 49, 50, 51, 52, 53, 54, 55, 56, 57, 58, 59, 60, 61, 62, 63, 64, 65, 66, 67, 68, 69, 70, 71, 72, 73, 74, 75, 76, 77, 78, 79, 80, 81, 82, 83, 84, 85, 86, 87, 88, 89, 90, 91, 92, 93, 94, 95, 96, 97, 98, 99, 100, 101, 102, 103, 104, 105, 106, 107, 108, 109, 110, 111, 112, 113, 114, 115, 116, 117] (by decide +kernel) (by decide +kernel)
set_option maxRecDepth 100000 in
theorem gL_workerT_X8_worker : GoodIn wsL_workerT (wsV RL 7 RX8 yX8_worker wsX8_workerT) := goodIn_app (goodIn_of _ (by decide +kernel)) ggL_workerT_X8_worker
set_option maxRecDepth 100000 in
theorem ggL_dueT_X8_due : GoodIn wsL_dueT wsX8_dueT := goodIn_r _ [6, 7, 8, 9, 10, 11, 12, 13, 5, 14, 15, 16, 17, 18, 19, 20, 21, 22, 23, 24, 25, 26, 27, 28, 29, 30, 31, 32, 33, 34, 35, 36, 37, 38, 39, 40, 41, 42, 43, 44, 45, 46, 47, 48, 49, 50, 51, 52, 53, 54, 55, 56, 57, 58, 59, 60, 61, 62, 63, 64, 65, 66, 67, 68, 69, 70, 71, 72, 73, 74, 75, 76, 77, 78, 79, 80, 81, 82, 83, 84, 85, 86, 87, 88, 89, 90, 91, 92, 93, 94, 95, 96, 97, 98] (by decide +kernel) (by decide +kernel)
set_option maxRecDepth 100000 in
theorem gL_dueT_X8_due : GoodIn wsL_dueT (wsV RL 15 RX8 yX8_due wsX8_dueT) := goodIn_app (goodIn_of _ (by decide +kernel)) ggL_dueT_X8_due
set_option maxRecDepth 100000 in
theorem ggL_leaveT_X8_leave : GoodIn wsL_leaveT wsX8_leaveT := goodIn_r _ [6, 7, 8, 9, 10, 11, 12, 13, 14, 15, 16, 17, 18, 5, 19, 20, 21, 22, 23, 24, 25, 26, 27, 28, 29, 30, 31, 32, 33, 34, 35, 36, 37, 38, 39, 40, 41, 42, 43, 44, 45, 46, 47, 48, 49, 50, 51, 52, 53, 54, 55, 56, 57, 58, 59, 60, 61, 62, 63, 64, 65, 66, 67, 68, 69, 70, 71, 72, 73, 74, 75, 76, 77, 78, 79, 80, 81, 82, 83, 84, 85, 86, 87, 88, 89, 90, 91, 92, 93, 94, 95, 96, 97, 98, 99, 100, 101, 102, 103, 104, 105, 106, 107, 108, 109, 110, 111, 112, 113, 114, 115, 116, 117, 118, 119, 120, 121, 122, 123, 124, 125, 126, 127, 128, 129, 130, 131, 132, 133, 134, 135, 136, 137, 138, 139] (by decide +kernel) (by decide +kernel)
set_option maxRecDepth 100000 in
theorem gL_leaveT_X8_leave : GoodIn wsL_leaveT (wsV RL 19 RX8 yX8_leave wsX8_leaveT) := goodIn_app (goodIn_of _ (by decide +kernel)) ggL_leaveT_X8_leave
