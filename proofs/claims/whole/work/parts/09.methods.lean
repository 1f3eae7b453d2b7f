/-! the methods, by program out of the printed names and tables -/
def mLine_init : MI := (0, yX0_init, cX0_init, 1, none, 1, 64)
theorem mLine_init_r : mOwn mLine_init = 0 ∧ mMaxL mLine_init = 1 ∧ mRet mLine_init = none ∧ mFr mLine_init = 1 ∧ mLo mLine_init = 64 := ⟨rfl, rfl, rfl, rfl, rfl⟩
def mLine_become : MI := (0, yX0_become, cX0_become, 3, none, 3, 106)
theorem mLine_become_r : mOwn mLine_become = 0 ∧ mMaxL mLine_become = 3 ∧ mRet mLine_become = none ∧ mFr mLine_become = 3 ∧ mLo mLine_become = 106 := ⟨rfl, rfl, rfl, rfl, rfl⟩
def mLine_replace : MI := (0, yX0_replace, cX0_replace, 8, none, 3, 106)
theorem mLine_replace_r : mOwn mLine_replace = 0 ∧ mMaxL mLine_replace = 8 ∧ mRet mLine_replace = none ∧ mFr mLine_replace = 3 ∧ mLo mLine_replace = 106 := ⟨rfl, rfl, rfl, rfl, rfl⟩
def mLine_split : MI := (0, yX0_split, cX0_split, 3, none, 2, 84)
theorem mLine_split_r : mOwn mLine_split = 0 ∧ mMaxL mLine_split = 3 ∧ mRet mLine_split = none ∧ mFr mLine_split = 2 ∧ mLo mLine_split = 84 := ⟨rfl, rfl, rfl, rfl, rfl⟩
def mLog_init : MI := (1, yX1_init, cX1_init, 1, none, 1, 64)
theorem mLog_init_r : mOwn mLog_init = 1 ∧ mMaxL mLog_init = 1 ∧ mRet mLog_init = none ∧ mFr mLog_init = 1 ∧ mLo mLog_init = 64 := ⟨rfl, rfl, rfl, rfl, rfl⟩
def mLog_isOfTyped : MI := (1, yX1_isOfTyped, cX1_isOfTyped, 5, (some .boolean), 2, 89)
theorem mLog_isOfTyped_r : mOwn mLog_isOfTyped = 1 ∧ mMaxL mLog_isOfTyped = 5 ∧ mRet mLog_isOfTyped = (some .boolean) ∧ mFr mLog_isOfTyped = 2 ∧ mLo mLog_isOfTyped = 89 := ⟨rfl, rfl, rfl, rfl, rfl⟩
def mLog_add : MI := (1, yX1_add, cX1_add, 6, none, 3, 113)
theorem mLog_add_r : mOwn mLog_add = 1 ∧ mMaxL mLog_add = 6 ∧ mRet mLog_add = none ∧ mFr mLog_add = 3 ∧ mLo mLog_add = 113 := ⟨rfl, rfl, rfl, rfl, rfl⟩
def mLog_countForward : MI := (1, yX1_countForward, cX1_countForward, 4, (some .int), 1, 64)
theorem mLog_countForward_r : mOwn mLog_countForward = 1 ∧ mMaxL mLog_countForward = 4 ∧ mRet mLog_countForward = (some .int) ∧ mFr mLog_countForward = 1 ∧ mLo mLog_countForward = 64 := ⟨rfl, rfl, rfl, rfl, rfl⟩
def mLog_findForward : MI := (1, yX1_findForward, cX1_findForward, 5, (some .int), 1, 64)
theorem mLog_findForward_r : mOwn mLog_findForward = 1 ∧ mMaxL mLog_findForward = 5 ∧ mRet mLog_findForward = (some .int) ∧ mFr mLog_findForward = 1 ∧ mLo mLog_findForward = 64 := ⟨rfl, rfl, rfl, rfl, rfl⟩
def mLog_forget : MI := (1, yX1_forget, cX1_forget, 6, none, 3, 113)
theorem mLog_forget_r : mOwn mLog_forget = 1 ∧ mMaxL mLog_forget = 6 ∧ mRet mLog_forget = none ∧ mFr mLog_forget = 3 ∧ mLo mLog_forget = 113 := ⟨rfl, rfl, rfl, rfl, rfl⟩
def mLog_move : MI := (1, yX1_move, cX1_move, 3, none, 1, 64)
theorem mLog_move_r : mOwn mLog_move = 1 ∧ mMaxL mLog_move = 3 ∧ mRet mLog_move = none ∧ mFr mLog_move = 1 ∧ mLo mLog_move = 64 := ⟨rfl, rfl, rfl, rfl, rfl⟩
def mNames_init : MI := (2, yX2_init, cX2_init, 1, none, 1, 64)
theorem mNames_init_r : mOwn mNames_init = 2 ∧ mMaxL mNames_init = 1 ∧ mRet mNames_init = none ∧ mFr mNames_init = 1 ∧ mLo mNames_init = 64 := ⟨rfl, rfl, rfl, rfl, rfl⟩
def mNames_find : MI := (2, yX2_find, cX2_find, 5, (some .int), 2, 89)
theorem mNames_find_r : mOwn mNames_find = 2 ∧ mMaxL mNames_find = 5 ∧ mRet mNames_find = (some .int) ∧ mFr mNames_find = 2 ∧ mLo mNames_find = 89 := ⟨rfl, rfl, rfl, rfl, rfl⟩
def mNames_add : MI := (2, yX2_add, cX2_add, 6, (some .int), 1, 64)
theorem mNames_add_r : mOwn mNames_add = 2 ∧ mMaxL mNames_add = 6 ∧ mRet mNames_add = (some .int) ∧ mFr mNames_add = 1 ∧ mLo mNames_add = 64 := ⟨rfl, rfl, rfl, rfl, rfl⟩
def mNames_firstOf : MI := (2, yX2_firstOf, cX2_firstOf, 3, (some .int), 1, 64)
theorem mNames_firstOf_r : mOwn mNames_firstOf = 2 ∧ mMaxL mNames_firstOf = 3 ∧ mRet mNames_firstOf = (some .int) ∧ mFr mNames_firstOf = 1 ∧ mLo mNames_firstOf = 64 := ⟨rfl, rfl, rfl, rfl, rfl⟩
def mNames_countOf : MI := (2, yX2_countOf, cX2_countOf, 4, (some .int), 1, 64)
theorem mNames_countOf_r : mOwn mNames_countOf = 2 ∧ mMaxL mNames_countOf = 4 ∧ mRet mNames_countOf = (some .int) ∧ mFr mNames_countOf = 1 ∧ mLo mNames_countOf = 64 := ⟨rfl, rfl, rfl, rfl, rfl⟩
def mNear_init : MI := (3, yX3_init, cX3_init, 2, none, 1, 64)
theorem mNear_init_r : mOwn mNear_init = 3 ∧ mMaxL mNear_init = 2 ∧ mRet mNear_init = none ∧ mFr mNear_init = 1 ∧ mLo mNear_init = 64 := ⟨rfl, rfl, rfl, rfl, rfl⟩
def mNear_update : MI := (3, yX3_update, cX3_update, 1, none, 6, 180)
theorem mNear_update_r : mOwn mNear_update = 3 ∧ mMaxL mNear_update = 1 ∧ mRet mNear_update = none ∧ mFr mNear_update = 6 ∧ mLo mNear_update = 180 := ⟨rfl, rfl, rfl, rfl, rfl⟩
def mNear_findRule : MI := (3, yX3_findRule, cX3_findRule, 4, none, 5, 157)
theorem mNear_findRule_r : mOwn mNear_findRule = 3 ∧ mMaxL mNear_findRule = 4 ∧ mRet mNear_findRule = none ∧ mFr mNear_findRule = 5 ∧ mLo mNear_findRule = 157 := ⟨rfl, rfl, rfl, rfl, rfl⟩
def mNear_pairsFrom : MI := (3, yX3_pairsFrom, cX3_pairsFrom, 3, (some .int), 1, 64)
theorem mNear_pairsFrom_r : mOwn mNear_pairsFrom = 3 ∧ mMaxL mNear_pairsFrom = 3 ∧ mRet mNear_pairsFrom = (some .int) ∧ mFr mNear_pairsFrom = 1 ∧ mLo mNear_pairsFrom = 64 := ⟨rfl, rfl, rfl, rfl, rfl⟩
def mNear_isPair : MI := (3, yX3_isPair, cX3_isPair, 4, (some .boolean), 3, 108)
theorem mNear_isPair_r : mOwn mNear_isPair = 3 ∧ mMaxL mNear_isPair = 4 ∧ mRet mNear_isPair = (some .boolean) ∧ mFr mNear_isPair = 3 ∧ mLo mNear_isPair = 108 := ⟨rfl, rfl, rfl, rfl, rfl⟩
def mNear_countPairs : MI := (3, yX3_countPairs, cX3_countPairs, 7, none, 4, 131)
theorem mNear_countPairs_r : mOwn mNear_countPairs = 3 ∧ mMaxL mNear_countPairs = 7 ∧ mRet mNear_countPairs = none ∧ mFr mNear_countPairs = 4 ∧ mLo mNear_countPairs = 131 := ⟨rfl, rfl, rfl, rfl, rfl⟩
def mNear_collectMissing : MI := (3, yX3_collectMissing, cX3_collectMissing, 5, none, 5, 155)
theorem mNear_collectMissing_r : mOwn mNear_collectMissing = 3 ∧ mMaxL mNear_collectMissing = 5 ∧ mRet mNear_collectMissing = none ∧ mFr mNear_collectMissing = 5 ∧ mLo mNear_collectMissing = 155 := ⟨rfl, rfl, rfl, rfl, rfl⟩
def mNear_findPartner : MI := (3, yX3_findPartner, cX3_findPartner, 5, (some .int), 4, 131)
theorem mNear_findPartner_r : mOwn mNear_findPartner = 3 ∧ mMaxL mNear_findPartner = 5 ∧ mRet mNear_findPartner = (some .int) ∧ mFr mNear_findPartner = 4 ∧ mLo mNear_findPartner = 131 := ⟨rfl, rfl, rfl, rfl, rfl⟩
def mProp_init : MI := (4, yX4_init, cX4_init, 3, none, 1, 64)
theorem mProp_init_r : mOwn mProp_init = 4 ∧ mMaxL mProp_init = 3 ∧ mRet mProp_init = none ∧ mFr mProp_init = 1 ∧ mLo mProp_init = 64 := ⟨rfl, rfl, rfl, rfl, rfl⟩
def mProp_update : MI := (4, yX4_update, cX4_update, 2, none, 7, 199)
theorem mProp_update_r : mOwn mProp_update = 4 ∧ mMaxL mProp_update = 2 ∧ mRet mProp_update = none ∧ mFr mProp_update = 7 ∧ mLo mProp_update = 199 := ⟨rfl, rfl, rfl, rfl, rfl⟩
def mProp_consider : MI := (4, yX4_consider, cX4_consider, 7, none, 6, 173)
theorem mProp_consider_r : mOwn mProp_consider = 4 ∧ mMaxL mProp_consider = 7 ∧ mRet mProp_consider = none ∧ mFr mProp_consider = 6 ∧ mLo mProp_consider = 173 := ⟨rfl, rfl, rfl, rfl, rfl⟩
def mProp_insert : MI := (4, yX4_insert, cX4_insert, 5, none, 2, 87)
theorem mProp_insert_r : mOwn mProp_insert = 4 ∧ mMaxL mProp_insert = 5 ∧ mRet mProp_insert = none ∧ mFr mProp_insert = 2 ∧ mLo mProp_insert = 87 := ⟨rfl, rfl, rfl, rfl, rfl⟩
def mProp_isBefore : MI := (4, yX4_isBefore, cX4_isBefore, 4, (some .boolean), 1, 64)
theorem mProp_isBefore_r : mOwn mProp_isBefore = 4 ∧ mMaxL mProp_isBefore = 4 ∧ mRet mProp_isBefore = (some .boolean) ∧ mFr mProp_isBefore = 1 ∧ mLo mProp_isBefore = 64 := ⟨rfl, rfl, rfl, rfl, rfl⟩
def mRead_init : MI := (5, yX5_init, cX5_init, 5, none, 1, 64)
theorem mRead_init_r : mOwn mRead_init = 5 ∧ mMaxL mRead_init = 5 ∧ mRet mRead_init = none ∧ mFr mRead_init = 1 ∧ mLo mRead_init = 64 := ⟨rfl, rfl, rfl, rfl, rfl⟩
def mRead_update : MI := (5, yX5_update, cX5_update, 1, none, 6, 173)
theorem mRead_update_r : mOwn mRead_update = 5 ∧ mMaxL mRead_update = 1 ∧ mRet mRead_update = none ∧ mFr mRead_update = 6 ∧ mLo mRead_update = 173 := ⟨rfl, rfl, rfl, rfl, rfl⟩
def mRead_wordOfTyped : MI := (5, yX5_wordOfTyped, cX5_wordOfTyped, 3, (some .int), 3, 113)
theorem mRead_wordOfTyped_r : mOwn mRead_wordOfTyped = 5 ∧ mMaxL mRead_wordOfTyped = 3 ∧ mRet mRead_wordOfTyped = (some .int) ∧ mFr mRead_wordOfTyped = 3 ∧ mLo mRead_wordOfTyped = 113 := ⟨rfl, rfl, rfl, rfl, rfl⟩
def mRead_collectMeant : MI := (5, yX5_collectMeant, cX5_collectMeant, 3, none, 4, 135)
theorem mRead_collectMeant_r : mOwn mRead_collectMeant = 5 ∧ mMaxL mRead_collectMeant = 3 ∧ mRet mRead_collectMeant = none ∧ mFr mRead_collectMeant = 4 ∧ mLo mRead_collectMeant = 135 := ⟨rfl, rfl, rfl, rfl, rfl⟩
def mRead_judge : MI := (5, yX5_judge, cX5_judge, 3, (some .int), 5, 151)
theorem mRead_judge_r : mOwn mRead_judge = 5 ∧ mMaxL mRead_judge = 3 ∧ mRet mRead_judge = (some .int) ∧ mFr mRead_judge = 5 ∧ mLo mRead_judge = 151 := ⟨rfl, rfl, rfl, rfl, rfl⟩
def mRead_findUnknown : MI := (5, yX5_findUnknown, cX5_findUnknown, 3, (some .int), 1, 64)
theorem mRead_findUnknown_r : mOwn mRead_findUnknown = 5 ∧ mMaxL mRead_findUnknown = 3 ∧ mRet mRead_findUnknown = (some .int) ∧ mFr mRead_findUnknown = 1 ∧ mLo mRead_findUnknown = 64 := ⟨rfl, rfl, rfl, rfl, rfl⟩
def mRead_findHidden : MI := (5, yX5_findHidden, cX5_findHidden, 2, (some .int), 1, 64)
theorem mRead_findHidden_r : mOwn mRead_findHidden = 5 ∧ mMaxL mRead_findHidden = 2 ∧ mRet mRead_findHidden = (some .int) ∧ mFr mRead_findHidden = 1 ∧ mLo mRead_findHidden = 64 := ⟨rfl, rfl, rfl, rfl, rfl⟩
def mRead_findFitting : MI := (5, yX5_findFitting, cX5_findFitting, 2, (some .int), 4, 130)
theorem mRead_findFitting_r : mOwn mRead_findFitting = 5 ∧ mMaxL mRead_findFitting = 2 ∧ mRet mRead_findFitting = (some .int) ∧ mFr mRead_findFitting = 4 ∧ mLo mRead_findFitting = 130 := ⟨rfl, rfl, rfl, rfl, rfl⟩
def mRead_beginsAs : MI := (5, yX5_beginsAs, cX5_beginsAs, 3, (some .boolean), 3, 108)
theorem mRead_beginsAs_r : mOwn mRead_beginsAs = 5 ∧ mMaxL mRead_beginsAs = 3 ∧ mRet mRead_beginsAs = (some .boolean) ∧ mFr mRead_beginsAs = 3 ∧ mLo mRead_beginsAs = 108 := ⟨rfl, rfl, rfl, rfl, rfl⟩
def mRead_wouldFit : MI := (5, yX5_wouldFit, cX5_wouldFit, 3, (some .boolean), 5, 151)
theorem mRead_wouldFit_r : mOwn mRead_wouldFit = 5 ∧ mMaxL mRead_wouldFit = 3 ∧ mRet mRead_wouldFit = (some .boolean) ∧ mFr mRead_wouldFit = 5 ∧ mLo mRead_wouldFit = 151 := ⟨rfl, rfl, rfl, rfl, rfl⟩
def mRead_verbWith : MI := (5, yX5_verbWith, cX5_verbWith, 2, (some .int), 1, 64)
theorem mRead_verbWith_r : mOwn mRead_verbWith = 5 ∧ mMaxL mRead_verbWith = 2 ∧ mRet mRead_verbWith = (some .int) ∧ mFr mRead_verbWith = 1 ∧ mLo mRead_verbWith = 64 := ⟨rfl, rfl, rfl, rfl, rfl⟩
def mRead_couldComeNext : MI := (5, yX5_couldComeNext, cX5_couldComeNext, 3, (some .boolean), 4, 130)
theorem mRead_couldComeNext_r : mOwn mRead_couldComeNext = 5 ∧ mMaxL mRead_couldComeNext = 3 ∧ mRet mRead_couldComeNext = (some .boolean) ∧ mFr mRead_couldComeNext = 4 ∧ mLo mRead_couldComeNext = 130 := ⟨rfl, rfl, rfl, rfl, rfl⟩
def mRules_init : MI := (6, yX6_init, cX6_init, 1, none, 1, 64)
theorem mRules_init_r : mOwn mRules_init = 6 ∧ mMaxL mRules_init = 1 ∧ mRet mRules_init = none ∧ mFr mRules_init = 1 ∧ mLo mRules_init = 64 := ⟨rfl, rfl, rfl, rfl, rfl⟩
def mRules_add : MI := (6, yX6_add, cX6_add, 3, (some .int), 1, 64)
theorem mRules_add_r : mOwn mRules_add = 6 ∧ mMaxL mRules_add = 3 ∧ mRet mRules_add = (some .int) ∧ mFr mRules_add = 1 ∧ mLo mRules_add = 64 := ⟨rfl, rfl, rfl, rfl, rfl⟩
def mRules_addToken : MI := (6, yX6_addToken, cX6_addToken, 3, (some .int), 1, 64)
theorem mRules_addToken_r : mOwn mRules_addToken = 6 ∧ mMaxL mRules_addToken = 3 ∧ mRet mRules_addToken = (some .int) ∧ mFr mRules_addToken = 1 ∧ mLo mRules_addToken = 64 := ⟨rfl, rfl, rfl, rfl, rfl⟩
def mRules_tokenAt : MI := (6, yX6_tokenAt, cX6_tokenAt, 3, (some .int), 1, 64)
theorem mRules_tokenAt_r : mOwn mRules_tokenAt = 6 ∧ mMaxL mRules_tokenAt = 3 ∧ mRet mRules_tokenAt = (some .int) ∧ mFr mRules_tokenAt = 1 ∧ mLo mRules_tokenAt = 64 := ⟨rfl, rfl, rfl, rfl, rfl⟩
def mRules_hasVerb : MI := (6, yX6_hasVerb, cX6_hasVerb, 3, (some .boolean), 1, 64)
theorem mRules_hasVerb_r : mOwn mRules_hasVerb = 6 ∧ mMaxL mRules_hasVerb = 3 ∧ mRet mRules_hasVerb = (some .boolean) ∧ mFr mRules_hasVerb = 1 ∧ mLo mRules_hasVerb = 64 := ⟨rfl, rfl, rfl, rfl, rfl⟩
def mSett_init : MI := (7, yX7_init, cX7_init, 1, none, 1, 64)
theorem mSett_init_r : mOwn mSett_init = 7 ∧ mMaxL mSett_init = 1 ∧ mRet mSett_init = none ∧ mFr mSett_init = 1 ∧ mLo mSett_init = 64 := ⟨rfl, rfl, rfl, rfl, rfl⟩
def mSett_makeNear : MI := (7, yX7_makeNear, cX7_makeNear, 4, (some .boolean), 1, 64)
theorem mSett_makeNear_r : mOwn mSett_makeNear = 7 ∧ mMaxL mSett_makeNear = 4 ∧ mRet mSett_makeNear = (some .boolean) ∧ mFr mSett_makeNear = 1 ∧ mLo mSett_makeNear = 64 := ⟨rfl, rfl, rfl, rfl, rfl⟩
def mSett_costOfChange : MI := (7, yX7_costOfChange, cX7_costOfChange, 4, (some .int), 1, 64)
theorem mSett_costOfChange_r : mOwn mSett_costOfChange = 7 ∧ mMaxL mSett_costOfChange = 4 ∧ mRet mSett_costOfChange = (some .int) ∧ mFr mSett_costOfChange = 1 ∧ mLo mSett_costOfChange = 64 := ⟨rfl, rfl, rfl, rfl, rfl⟩
def mTable_init : MI := (8, yX8_init, cX8_init, 3, none, 1, 64)
theorem mTable_init_r : mOwn mTable_init = 8 ∧ mMaxL mTable_init = 3 ∧ mRet mTable_init = none ∧ mFr mTable_init = 1 ∧ mLo mTable_init = 64 := ⟨rfl, rfl, rfl, rfl, rfl⟩
def mTable_cost : MI := (8, yX8_cost, cX8_cost, 3, (some .int), 1, 64)
theorem mTable_cost_r : mOwn mTable_cost = 8 ∧ mMaxL mTable_cost = 3 ∧ mRet mTable_cost = (some .int) ∧ mFr mTable_cost = 1 ∧ mLo mTable_cost = 64 := ⟨rfl, rfl, rfl, rfl, rfl⟩
def mTable_nearestName : MI := (8, yX8_nearestName, cX8_nearestName, 7, (some .int), 4, 142)
theorem mTable_nearestName_r : mOwn mTable_nearestName = 8 ∧ mMaxL mTable_nearestName = 7 ∧ mRet mTable_nearestName = (some .int) ∧ mFr mTable_nearestName = 4 ∧ mLo mTable_nearestName = 142 := ⟨rfl, rfl, rfl, rfl, rfl⟩
def mTable_fill : MI := (8, yX8_fill, cX8_fill, 8, (some .int), 3, 115)
theorem mTable_fill_r : mOwn mTable_fill = 8 ∧ mMaxL mTable_fill = 8 ∧ mRet mTable_fill = (some .int) ∧ mFr mTable_fill = 3 ∧ mLo mTable_fill = 115 := ⟨rfl, rfl, rfl, rfl, rfl⟩
def mTable_leastCost : MI := (8, yX8_leastCost, cX8_leastCost, 9, (some .int), 2, 87)
theorem mTable_leastCost_r : mOwn mTable_leastCost = 8 ∧ mMaxL mTable_leastCost = 9 ∧ mRet mTable_leastCost = (some .int) ∧ mFr mTable_leastCost = 2 ∧ mLo mTable_leastCost = 87 := ⟨rfl, rfl, rfl, rfl, rfl⟩
def mWords_init : MI := (9, yX9_init, cX9_init, 1, none, 1, 64)
theorem mWords_init_r : mOwn mWords_init = 9 ∧ mMaxL mWords_init = 1 ∧ mRet mWords_init = none ∧ mFr mWords_init = 1 ∧ mLo mWords_init = 64 := ⟨rfl, rfl, rfl, rfl, rfl⟩
def mWords_add : MI := (9, yX9_add, cX9_add, 3, (some .int), 1, 64)
theorem mWords_add_r : mOwn mWords_add = 9 ∧ mMaxL mWords_add = 3 ∧ mRet mWords_add = (some .int) ∧ mFr mWords_add = 1 ∧ mLo mWords_add = 64 := ⟨rfl, rfl, rfl, rfl, rfl⟩
def mWords_isOf : MI := (9, yX9_isOf, cX9_isOf, 3, (some .boolean), 1, 64)
theorem mWords_isOf_r : mOwn mWords_isOf = 9 ∧ mMaxL mWords_isOf = 3 ∧ mRet mWords_isOf = (some .boolean) ∧ mFr mWords_isOf = 1 ∧ mLo mWords_isOf = 64 := ⟨rfl, rfl, rfl, rfl, rfl⟩
def mWords_isAs : MI := (9, yX9_isAs, cX9_isAs, 3, (some .boolean), 2, 86)
theorem mWords_isAs_r : mOwn mWords_isAs = 9 ∧ mMaxL mWords_isAs = 3 ∧ mRet mWords_isAs = (some .boolean) ∧ mFr mWords_isAs = 2 ∧ mLo mWords_isAs = 86 := ⟨rfl, rfl, rfl, rfl, rfl⟩
def mWords_isSeen : MI := (9, yX9_isSeen, cX9_isSeen, 2, (some .boolean), 1, 64)
theorem mWords_isSeen_r : mOwn mWords_isSeen = 9 ∧ mMaxL mWords_isSeen = 2 ∧ mRet mWords_isSeen = (some .boolean) ∧ mFr mWords_isSeen = 1 ∧ mLo mWords_isSeen = 64 := ⟨rfl, rfl, rfl, rfl, rfl⟩
def mHelp_init : MI := (10, yX10_init, cX10_init, 1, none, 2, 88)
theorem mHelp_init_r : mOwn mHelp_init = 10 ∧ mMaxL mHelp_init = 1 ∧ mRet mHelp_init = none ∧ mFr mHelp_init = 2 ∧ mLo mHelp_init = 88 := ⟨rfl, rfl, rfl, rfl, rfl⟩
def mHelp_feed : MI := (10, yX10_feed, cX10_feed, 5, (some .int), 1, 64)
theorem mHelp_feed_r : mOwn mHelp_feed = 10 ∧ mMaxL mHelp_feed = 5 ∧ mRet mHelp_feed = (some .int) ∧ mFr mHelp_feed = 1 ∧ mLo mHelp_feed = 64 := ⟨rfl, rfl, rfl, rfl, rfl⟩
def mHelp_word : MI := (10, yX10_word, cX10_word, 4, (some .int), 3, 113)
theorem mHelp_word_r : mOwn mHelp_word = 10 ∧ mMaxL mHelp_word = 4 ∧ mRet mHelp_word = (some .int) ∧ mFr mHelp_word = 3 ∧ mLo mHelp_word = 113 := ⟨rfl, rfl, rfl, rfl, rfl⟩
def mHelp_scope : MI := (10, yX10_scope, cX10_scope, 4, (some .int), 2, 86)
theorem mHelp_scope_r : mOwn mHelp_scope = 10 ∧ mMaxL mHelp_scope = 4 ∧ mRet mHelp_scope = (some .int) ∧ mFr mHelp_scope = 2 ∧ mLo mHelp_scope = 86 := ⟨rfl, rfl, rfl, rfl, rfl⟩
def mHelp_classes : MI := (10, yX10_classes, cX10_classes, 4, (some .int), 2, 86)
theorem mHelp_classes_r : mOwn mHelp_classes = 10 ∧ mMaxL mHelp_classes = 4 ∧ mRet mHelp_classes = (some .int) ∧ mFr mHelp_classes = 2 ∧ mLo mHelp_classes = 86 := ⟨rfl, rfl, rfl, rfl, rfl⟩
def mHelp_danger : MI := (10, yX10_danger, cX10_danger, 4, (some .int), 2, 86)
theorem mHelp_danger_r : mOwn mHelp_danger = 10 ∧ mMaxL mHelp_danger = 4 ∧ mRet mHelp_danger = (some .int) ∧ mFr mHelp_danger = 2 ∧ mLo mHelp_danger = 86 := ⟨rfl, rfl, rfl, rfl, rfl⟩
def mHelp_rule : MI := (10, yX10_rule, cX10_rule, 2, (some .int), 2, 86)
theorem mHelp_rule_r : mOwn mHelp_rule = 10 ∧ mMaxL mHelp_rule = 2 ∧ mRet mHelp_rule = (some .int) ∧ mFr mHelp_rule = 2 ∧ mLo mHelp_rule = 86 := ⟨rfl, rfl, rfl, rfl, rfl⟩
def mHelp_token : MI := (10, yX10_token, cX10_token, 4, (some .int), 2, 86)
theorem mHelp_token_r : mOwn mHelp_token = 10 ∧ mMaxL mHelp_token = 4 ∧ mRet mHelp_token = (some .int) ∧ mFr mHelp_token = 2 ∧ mLo mHelp_token = 86 := ⟨rfl, rfl, rfl, rfl, rfl⟩
def mHelp_setting : MI := (10, yX10_setting, cX10_setting, 4, (some .int), 1, 64)
theorem mHelp_setting_r : mOwn mHelp_setting = 10 ∧ mMaxL mHelp_setting = 4 ∧ mRet mHelp_setting = (some .int) ∧ mFr mHelp_setting = 1 ∧ mLo mHelp_setting = 64 := ⟨rfl, rfl, rfl, rfl, rfl⟩
def mHelp_near : MI := (10, yX10_near, cX10_near, 3, (some .int), 2, 87)
theorem mHelp_near_r : mOwn mHelp_near = 10 ∧ mMaxL mHelp_near = 3 ∧ mRet mHelp_near = (some .int) ∧ mFr mHelp_near = 2 ∧ mLo mHelp_near = 87 := ⟨rfl, rfl, rfl, rfl, rfl⟩
def mHelp_line : MI := (10, yX10_line, cX10_line, 2, (some .int), 4, 128)
theorem mHelp_line_r : mOwn mHelp_line = 10 ∧ mMaxL mHelp_line = 2 ∧ mRet mHelp_line = (some .int) ∧ mFr mHelp_line = 4 ∧ mLo mHelp_line = 128 := ⟨rfl, rfl, rfl, rfl, rfl⟩
def mHelp_at : MI := (10, yX10_at, cX10_at, 2, (some .int), 1, 64)
theorem mHelp_at_r : mOwn mHelp_at = 10 ∧ mMaxL mHelp_at = 2 ∧ mRet mHelp_at = (some .int) ∧ mFr mHelp_at = 1 ∧ mLo mHelp_at = 64 := ⟨rfl, rfl, rfl, rfl, rfl⟩
def mHelp_typed : MI := (10, yX10_typed, cX10_typed, 3, (some .int), 4, 135)
theorem mHelp_typed_r : mOwn mHelp_typed = 10 ∧ mMaxL mHelp_typed = 3 ∧ mRet mHelp_typed = (some .int) ∧ mFr mHelp_typed = 4 ∧ mLo mHelp_typed = 135 := ⟨rfl, rfl, rfl, rfl, rfl⟩
def mHelp_look : MI := (10, yX10_look, cX10_look, 1, (some .int), 7, 193)
theorem mHelp_look_r : mOwn mHelp_look = 10 ∧ mMaxL mHelp_look = 1 ∧ mRet mHelp_look = (some .int) ∧ mFr mHelp_look = 7 ∧ mLo mHelp_look = 193 := ⟨rfl, rfl, rfl, rfl, rfl⟩
def mHelp_told : MI := (10, yX10_told, cX10_told, 2, (some .int), 8, 220)
theorem mHelp_told_r : mOwn mHelp_told = 10 ∧ mMaxL mHelp_told = 2 ∧ mRet mHelp_told = (some .int) ∧ mFr mHelp_told = 8 ∧ mLo mHelp_told = 220 := ⟨rfl, rfl, rfl, rfl, rfl⟩
def mHelp_proposal : MI := (10, yX10_proposal, cX10_proposal, 3, (some .int), 8, 220)
theorem mHelp_proposal_r : mOwn mHelp_proposal = 10 ∧ mMaxL mHelp_proposal = 3 ∧ mRet mHelp_proposal = (some .int) ∧ mFr mHelp_proposal = 8 ∧ mLo mHelp_proposal = 220 := ⟨rfl, rfl, rfl, rfl, rfl⟩
def mHelp_fix : MI := (10, yX10_fix, cX10_fix, 2, (some .int), 8, 220)
theorem mHelp_fix_r : mOwn mHelp_fix = 10 ∧ mMaxL mHelp_fix = 2 ∧ mRet mHelp_fix = (some .int) ∧ mFr mHelp_fix = 8 ∧ mLo mHelp_fix = 220 := ⟨rfl, rfl, rfl, rfl, rfl⟩
def mHelp_choose : MI := (10, yX10_choose, cX10_choose, 2, (some .int), 8, 220)
theorem mHelp_choose_r : mOwn mHelp_choose = 10 ∧ mMaxL mHelp_choose = 2 ∧ mRet mHelp_choose = (some .int) ∧ mFr mHelp_choose = 8 ∧ mLo mHelp_choose = 220 := ⟨rfl, rfl, rfl, rfl, rfl⟩
def mHelp_missing : MI := (10, yX10_missing, cX10_missing, 2, (some .int), 7, 200)
theorem mHelp_missing_r : mOwn mHelp_missing = 10 ∧ mMaxL mHelp_missing = 2 ∧ mRet mHelp_missing = (some .int) ∧ mFr mHelp_missing = 7 ∧ mLo mHelp_missing = 200 := ⟨rfl, rfl, rfl, rfl, rfl⟩
def mHelp_hint : MI := (10, yX10_hint, cX10_hint, 4, (some .int), 7, 193)
theorem mHelp_hint_r : mOwn mHelp_hint = 10 ∧ mMaxL mHelp_hint = 4 ∧ mRet mHelp_hint = (some .int) ∧ mFr mHelp_hint = 7 ∧ mLo mHelp_hint = 193 := ⟨rfl, rfl, rfl, rfl, rfl⟩
def mHelp_verbs : MI := (10, yX10_verbs, cX10_verbs, 5, (some .int), 4, 132)
theorem mHelp_verbs_r : mOwn mHelp_verbs = 10 ∧ mMaxL mHelp_verbs = 5 ∧ mRet mHelp_verbs = (some .int) ∧ mFr mHelp_verbs = 4 ∧ mLo mHelp_verbs = 132 := ⟨rfl, rfl, rfl, rfl, rfl⟩
def mHelp_edits : MI := (10, yX10_edits, cX10_edits, 4, (some .int), 5, 168)
theorem mHelp_edits_r : mOwn mHelp_edits = 10 ∧ mMaxL mHelp_edits = 4 ∧ mRet mHelp_edits = (some .int) ∧ mFr mHelp_edits = 5 ∧ mLo mHelp_edits = 168 := ⟨rfl, rfl, rfl, rfl, rfl⟩
def mHelp_cell : MI := (10, yX10_cell, cX10_cell, 3, (some .int), 2, 86)
theorem mHelp_cell_r : mOwn mHelp_cell = 10 ∧ mMaxL mHelp_cell = 3 ∧ mRet mHelp_cell = (some .int) ∧ mFr mHelp_cell = 2 ∧ mLo mHelp_cell = 86 := ⟨rfl, rfl, rfl, rfl, rfl⟩
def mHelp_forward : MI := (10, yX10_forward, cX10_forward, 1, (some .int), 2, 87)
theorem mHelp_forward_r : mOwn mHelp_forward = 10 ∧ mMaxL mHelp_forward = 1 ∧ mRet mHelp_forward = (some .int) ∧ mFr mHelp_forward = 2 ∧ mLo mHelp_forward = 87 := ⟨rfl, rfl, rfl, rfl, rfl⟩
def mHelp_pair : MI := (10, yX10_pair, cX10_pair, 4, (some .int), 2, 88)
theorem mHelp_pair_r : mOwn mHelp_pair = 10 ∧ mMaxL mHelp_pair = 4 ∧ mRet mHelp_pair = (some .int) ∧ mFr mHelp_pair = 2 ∧ mLo mHelp_pair = 88 := ⟨rfl, rfl, rfl, rfl, rfl⟩
def mHelp_learn : MI := (10, yX10_learn, cX10_learn, 5, (some .int), 4, 138)
theorem mHelp_learn_r : mOwn mHelp_learn = 10 ∧ mMaxL mHelp_learn = 5 ∧ mRet mHelp_learn = (some .int) ∧ mFr mHelp_learn = 4 ∧ mLo mHelp_learn = 138 := ⟨rfl, rfl, rfl, rfl, rfl⟩
def mHelp_count : MI := (10, yX10_count, cX10_count, 2, (some .int), 1, 64)
theorem mHelp_count_r : mOwn mHelp_count = 10 ∧ mMaxL mHelp_count = 2 ∧ mRet mHelp_count = (some .int) ∧ mFr mHelp_count = 1 ∧ mLo mHelp_count = 64 := ⟨rfl, rfl, rfl, rfl, rfl⟩
def mHelp_spell : MI := (10, yX10_spell, cX10_spell, 3, (some .boolean), 1, 64)
theorem mHelp_spell_r : mOwn mHelp_spell = 10 ∧ mMaxL mHelp_spell = 3 ∧ mRet mHelp_spell = (some .boolean) ∧ mFr mHelp_spell = 1 ∧ mLo mHelp_spell = 64 := ⟨rfl, rfl, rfl, rfl, rfl⟩
def mHelp_letterOf : MI := (10, yX10_letterOf, cX10_letterOf, 1, (some .int), 1, 64)
theorem mHelp_letterOf_r : mOwn mHelp_letterOf = 10 ∧ mMaxL mHelp_letterOf = 1 ∧ mRet mHelp_letterOf = (some .int) ∧ mFr mHelp_letterOf = 1 ∧ mLo mHelp_letterOf = 64 := ⟨rfl, rfl, rfl, rfl, rfl⟩
def mHelp_countRuns : MI := (10, yX10_countRuns, cX10_countRuns, 6, (some .int), 2, 84)
theorem mHelp_countRuns_r : mOwn mHelp_countRuns = 10 ∧ mMaxL mHelp_countRuns = 6 ∧ mRet mHelp_countRuns = (some .int) ∧ mFr mHelp_countRuns = 2 ∧ mLo mHelp_countRuns = 84 := ⟨rfl, rfl, rfl, rfl, rfl⟩
def mHelp_sameLetters : MI := (10, yX10_sameLetters, cX10_sameLetters, 6, (some .boolean), 1, 64)
theorem mHelp_sameLetters_r : mOwn mHelp_sameLetters = 10 ∧ mMaxL mHelp_sameLetters = 6 ∧ mRet mHelp_sameLetters = (some .boolean) ∧ mFr mHelp_sameLetters = 1 ∧ mLo mHelp_sameLetters = 64 := ⟨rfl, rfl, rfl, rfl, rfl⟩
def mHelp_countHints : MI := (10, yX10_countHints, cX10_countHints, 3, (some .int), 5, 152)
theorem mHelp_countHints_r : mOwn mHelp_countHints = 10 ∧ mMaxL mHelp_countHints = 3 ∧ mRet mHelp_countHints = (some .int) ∧ mFr mHelp_countHints = 5 ∧ mLo mHelp_countHints = 152 := ⟨rfl, rfl, rfl, rfl, rfl⟩
def mHelp_mayFixUnasked : MI := (10, yX10_mayFixUnasked, cX10_mayFixUnasked, 2, (some .boolean), 2, 85)
theorem mHelp_mayFixUnasked_r : mOwn mHelp_mayFixUnasked = 10 ∧ mMaxL mHelp_mayFixUnasked = 2 ∧ mRet mHelp_mayFixUnasked = (some .boolean) ∧ mFr mHelp_mayFixUnasked = 2 ∧ mLo mHelp_mayFixUnasked = 85 := ⟨rfl, rfl, rfl, rfl, rfl⟩
def mHelp_accept : MI := (10, yX10_accept, cX10_accept, 4, none, 4, 138)
theorem mHelp_accept_r : mOwn mHelp_accept = 10 ∧ mMaxL mHelp_accept = 4 ∧ mRet mHelp_accept = none ∧ mFr mHelp_accept = 4 ∧ mLo mHelp_accept = 138 := ⟨rfl, rfl, rfl, rfl, rfl⟩
def mHelp_takes : MI := (10, yX10_takes, cX10_takes, 5, (some .boolean), 3, 108)
theorem mHelp_takes_r : mOwn mHelp_takes = 10 ∧ mMaxL mHelp_takes = 5 ∧ mRet mHelp_takes = (some .boolean) ∧ mFr mHelp_takes = 3 ∧ mLo mHelp_takes = 108 := ⟨rfl, rfl, rfl, rfl, rfl⟩
def mModel_thrown : MI := (11, yX11_thrown, cX11_thrown, 1, (some .int), 1, 64)
theorem mModel_thrown_r : mOwn mModel_thrown = 11 ∧ mMaxL mModel_thrown = 1 ∧ mRet mModel_thrown = (some .int) ∧ mFr mModel_thrown = 1 ∧ mLo mModel_thrown = 64 := ⟨rfl, rfl, rfl, rfl, rfl⟩
def mModel_in : MI := (11, yX11_in, cX11_in, 3, (some .boolean), 1, 64)
theorem mModel_in_r : mOwn mModel_in = 11 ∧ mMaxL mModel_in = 3 ∧ mRet mModel_in = (some .boolean) ∧ mFr mModel_in = 1 ∧ mLo mModel_in = 64 := ⟨rfl, rfl, rfl, rfl, rfl⟩
def mModel_init : MI := (11, yX11_init, cX11_init, 2, none, 1, 64)
theorem mModel_init_r : mOwn mModel_init = 11 ∧ mMaxL mModel_init = 2 ∧ mRet mModel_init = none ∧ mFr mModel_init = 1 ∧ mLo mModel_init = 64 := ⟨rfl, rfl, rfl, rfl, rfl⟩
def mModel_isLetter : MI := (11, yX11_isLetter, cX11_isLetter, 1, (some .boolean), 2, 86)
theorem mModel_isLetter_r : mOwn mModel_isLetter = 11 ∧ mMaxL mModel_isLetter = 1 ∧ mRet mModel_isLetter = (some .boolean) ∧ mFr mModel_isLetter = 2 ∧ mLo mModel_isLetter = 86 := ⟨rfl, rfl, rfl, rfl, rfl⟩
def mModel_small : MI := (11, yX11_small, cX11_small, 1, (some .int), 1, 64)
theorem mModel_small_r : mOwn mModel_small = 11 ∧ mMaxL mModel_small = 1 ∧ mRet mModel_small = (some .int) ∧ mFr mModel_small = 1 ∧ mLo mModel_small = 64 := ⟨rfl, rfl, rfl, rfl, rfl⟩
def mModel_named : MI := (11, yX11_named, cX11_named, 8, (some .int), 2, 84)
theorem mModel_named_r : mOwn mModel_named = 11 ∧ mMaxL mModel_named = 8 ∧ mRet mModel_named = (some .int) ∧ mFr mModel_named = 2 ∧ mLo mModel_named = 84 := ⟨rfl, rfl, rfl, rfl, rfl⟩
def mModel_inScope : MI := (11, yX11_inScope, cX11_inScope, 2, (some .boolean), 1, 64)
theorem mModel_inScope_r : mOwn mModel_inScope = 11 ∧ mMaxL mModel_inScope = 2 ∧ mRet mModel_inScope = (some .boolean) ∧ mFr mModel_inScope = 1 ∧ mLo mModel_inScope = 64 := ⟨rfl, rfl, rfl, rfl, rfl⟩
def mModel_feed : MI := (11, yX11_feed, cX11_feed, 5, (some .int), 2, 86)
theorem mModel_feed_r : mOwn mModel_feed = 11 ∧ mMaxL mModel_feed = 5 ∧ mRet mModel_feed = (some .int) ∧ mFr mModel_feed = 2 ∧ mLo mModel_feed = 86 := ⟨rfl, rfl, rfl, rfl, rfl⟩
def mModel_name : MI := (11, yX11_name, cX11_name, 6, none, 1, 64)
theorem mModel_name_r : mOwn mModel_name = 11 ∧ mMaxL mModel_name = 6 ∧ mRet mModel_name = none ∧ mFr mModel_name = 1 ∧ mLo mModel_name = 64 := ⟨rfl, rfl, rfl, rfl, rfl⟩
def mModel_word : MI := (11, yX11_word, cX11_word, 5, (some .int), 3, 111)
theorem mModel_word_r : mOwn mModel_word = 11 ∧ mMaxL mModel_word = 5 ∧ mRet mModel_word = (some .int) ∧ mFr mModel_word = 3 ∧ mLo mModel_word = 111 := ⟨rfl, rfl, rfl, rfl, rfl⟩
def mModel_is : MI := (11, yX11_is, cX11_is, 3, (some .boolean), 2, 86)
theorem mModel_is_r : mOwn mModel_is = 11 ∧ mMaxL mModel_is = 3 ∧ mRet mModel_is = (some .boolean) ∧ mFr mModel_is = 2 ∧ mLo mModel_is = 86 := ⟨rfl, rfl, rfl, rfl, rfl⟩
def mModel_scope : MI := (11, yX11_scope, cX11_scope, 4, (some .int), 3, 108)
theorem mModel_scope_r : mOwn mModel_scope = 11 ∧ mMaxL mModel_scope = 4 ∧ mRet mModel_scope = (some .int) ∧ mFr mModel_scope = 3 ∧ mLo mModel_scope = 108 := ⟨rfl, rfl, rfl, rfl, rfl⟩
def mModel_classes : MI := (11, yX11_classes, cX11_classes, 4, (some .int), 3, 108)
theorem mModel_classes_r : mOwn mModel_classes = 11 ∧ mMaxL mModel_classes = 4 ∧ mRet mModel_classes = (some .int) ∧ mFr mModel_classes = 3 ∧ mLo mModel_classes = 108 := ⟨rfl, rfl, rfl, rfl, rfl⟩
def mModel_danger : MI := (11, yX11_danger, cX11_danger, 4, (some .int), 3, 108)
theorem mModel_danger_r : mOwn mModel_danger = 11 ∧ mMaxL mModel_danger = 4 ∧ mRet mModel_danger = (some .int) ∧ mFr mModel_danger = 3 ∧ mLo mModel_danger = 108 := ⟨rfl, rfl, rfl, rfl, rfl⟩
def mModel_rule : MI := (11, yX11_rule, cX11_rule, 2, (some .int), 3, 108)
theorem mModel_rule_r : mOwn mModel_rule = 11 ∧ mMaxL mModel_rule = 2 ∧ mRet mModel_rule = (some .int) ∧ mFr mModel_rule = 3 ∧ mLo mModel_rule = 108 := ⟨rfl, rfl, rfl, rfl, rfl⟩
def mModel_token : MI := (11, yX11_token, cX11_token, 3, (some .int), 3, 108)
theorem mModel_token_r : mOwn mModel_token = 11 ∧ mMaxL mModel_token = 3 ∧ mRet mModel_token = (some .int) ∧ mFr mModel_token = 3 ∧ mLo mModel_token = 108 := ⟨rfl, rfl, rfl, rfl, rfl⟩
def mModel_setting : MI := (11, yX11_setting, cX11_setting, 5, (some .int), 2, 86)
theorem mModel_setting_r : mOwn mModel_setting = 11 ∧ mMaxL mModel_setting = 5 ∧ mRet mModel_setting = (some .int) ∧ mFr mModel_setting = 2 ∧ mLo mModel_setting = 86 := ⟨rfl, rfl, rfl, rfl, rfl⟩
def mModel_near : MI := (11, yX11_near, cX11_near, 4, (some .int), 2, 86)
theorem mModel_near_r : mOwn mModel_near = 11 ∧ mMaxL mModel_near = 4 ∧ mRet mModel_near = (some .int) ∧ mFr mModel_near = 2 ∧ mLo mModel_near = 86 := ⟨rfl, rfl, rfl, rfl, rfl⟩
def mModel_runsOf : MI := (11, yX11_runsOf, cX11_runsOf, 4, (some .int), 3, 106)
theorem mModel_runsOf_r : mOwn mModel_runsOf = 11 ∧ mMaxL mModel_runsOf = 4 ∧ mRet mModel_runsOf = (some .int) ∧ mFr mModel_runsOf = 3 ∧ mLo mModel_runsOf = 106 := ⟨rfl, rfl, rfl, rfl, rfl⟩
def mModel_part : MI := (11, yX11_part, cX11_part, 2, none, 3, 111)
theorem mModel_part_r : mOwn mModel_part = 11 ∧ mMaxL mModel_part = 2 ∧ mRet mModel_part = none ∧ mFr mModel_part = 3 ∧ mLo mModel_part = 111 := ⟨rfl, rfl, rfl, rfl, rfl⟩
def mModel_line : MI := (11, yX11_line, cX11_line, 4, (some .int), 4, 129)
theorem mModel_line_r : mOwn mModel_line = 11 ∧ mMaxL mModel_line = 4 ∧ mRet mModel_line = (some .int) ∧ mFr mModel_line = 4 ∧ mLo mModel_line = 129 := ⟨rfl, rfl, rfl, rfl, rfl⟩
def mModel_at : MI := (11, yX11_at, cX11_at, 2, (some .int), 2, 86)
theorem mModel_at_r : mOwn mModel_at = 11 ∧ mMaxL mModel_at = 2 ∧ mRet mModel_at = (some .int) ∧ mFr mModel_at = 2 ∧ mLo mModel_at = 86 := ⟨rfl, rfl, rfl, rfl, rfl⟩
def mModel_typed : MI := (11, yX11_typed, cX11_typed, 3, (some .int), 4, 132)
theorem mModel_typed_r : mOwn mModel_typed = 11 ∧ mMaxL mModel_typed = 3 ∧ mRet mModel_typed = (some .int) ∧ mFr mModel_typed = 4 ∧ mLo mModel_typed = 132 := ⟨rfl, rfl, rfl, rfl, rfl⟩
def mModel_isAs : MI := (11, yX11_isAs, cX11_isAs, 3, (some .boolean), 1, 64)
theorem mModel_isAs_r : mOwn mModel_isAs = 11 ∧ mMaxL mModel_isAs = 3 ∧ mRet mModel_isAs = (some .boolean) ∧ mFr mModel_isAs = 1 ∧ mLo mModel_isAs = 64 := ⟨rfl, rfl, rfl, rfl, rfl⟩
def mModel_fitting : MI := (11, yX11_fitting, cX11_fitting, 6, (some .int), 2, 86)
theorem mModel_fitting_r : mOwn mModel_fitting = 11 ∧ mMaxL mModel_fitting = 6 ∧ mRet mModel_fitting = (some .int) ∧ mFr mModel_fitting = 2 ∧ mLo mModel_fitting = 86 := ⟨rfl, rfl, rfl, rfl, rfl⟩
def mModel_judge : MI := (11, yX11_judge, cX11_judge, 4, none, 4, 132)
theorem mModel_judge_r : mOwn mModel_judge = 11 ∧ mMaxL mModel_judge = 4 ∧ mRet mModel_judge = none ∧ mFr mModel_judge = 4 ∧ mLo mModel_judge = 132 := ⟨rfl, rfl, rfl, rfl, rfl⟩
def mModel_look : MI := (11, yX11_look, cX11_look, 1, (some .int), 5, 155)
theorem mModel_look_r : mOwn mModel_look = 11 ∧ mMaxL mModel_look = 1 ∧ mRet mModel_look = (some .int) ∧ mFr mModel_look = 5 ∧ mLo mModel_look = 155 := ⟨rfl, rfl, rfl, rfl, rfl⟩
def mModel_least : MI := (11, yX11_least, cX11_least, 3, (some .int), 1, 64)
theorem mModel_least_r : mOwn mModel_least = 11 ∧ mMaxL mModel_least = 3 ∧ mRet mModel_least = (some .int) ∧ mFr mModel_least = 1 ∧ mLo mModel_least = 64 := ⟨rfl, rfl, rfl, rfl, rfl⟩
def mModel_change : MI := (11, yX11_change, cX11_change, 3, (some .int), 2, 86)
theorem mModel_change_r : mOwn mModel_change = 11 ∧ mMaxL mModel_change = 3 ∧ mRet mModel_change = (some .int) ∧ mFr mModel_change = 2 ∧ mLo mModel_change = 86 := ⟨rfl, rfl, rfl, rfl, rfl⟩
def mModel_reckon : MI := (11, yX11_reckon, cX11_reckon, 11, none, 3, 108)
theorem mModel_reckon_r : mOwn mModel_reckon = 11 ∧ mMaxL mModel_reckon = 11 ∧ mRet mModel_reckon = none ∧ mFr mModel_reckon = 3 ∧ mLo mModel_reckon = 108 := ⟨rfl, rfl, rfl, rfl, rfl⟩
def mModel_nearest : MI := (11, yX11_nearest, cX11_nearest, 7, none, 4, 138)
theorem mModel_nearest_r : mOwn mModel_nearest = 11 ∧ mMaxL mModel_nearest = 7 ∧ mRet mModel_nearest = none ∧ mFr mModel_nearest = 4 ∧ mLo mModel_nearest = 138 := ⟨rfl, rfl, rfl, rfl, rfl⟩
def mModel_wouldFit : MI := (11, yX11_wouldFit, cX11_wouldFit, 4, (some .boolean), 3, 111)
theorem mModel_wouldFit_r : mOwn mModel_wouldFit = 11 ∧ mMaxL mModel_wouldFit = 4 ∧ mRet mModel_wouldFit = (some .boolean) ∧ mFr mModel_wouldFit = 3 ∧ mLo mModel_wouldFit = 111 := ⟨rfl, rfl, rfl, rfl, rfl⟩
def mModel_propose : MI := (11, yX11_propose, cX11_propose, 6, none, 5, 164)
theorem mModel_propose_r : mOwn mModel_propose = 11 ∧ mMaxL mModel_propose = 6 ∧ mRet mModel_propose = none ∧ mFr mModel_propose = 5 ∧ mLo mModel_propose = 164 := ⟨rfl, rfl, rfl, rfl, rfl⟩
def mModel_proposal : MI := (11, yX11_proposal, cX11_proposal, 3, (some .int), 6, 189)
theorem mModel_proposal_r : mOwn mModel_proposal = 11 ∧ mMaxL mModel_proposal = 3 ∧ mRet mModel_proposal = (some .int) ∧ mFr mModel_proposal = 6 ∧ mLo mModel_proposal = 189 := ⟨rfl, rfl, rfl, rfl, rfl⟩
def mModel_isLogged : MI := (11, yX11_isLogged, cX11_isLogged, 6, (some .boolean), 2, 84)
theorem mModel_isLogged_r : mOwn mModel_isLogged = 11 ∧ mMaxL mModel_isLogged = 6 ∧ mRet mModel_isLogged = (some .boolean) ∧ mFr mModel_isLogged = 2 ∧ mLo mModel_isLogged = 84 := ⟨rfl, rfl, rfl, rfl, rfl⟩
def mModel_log : MI := (11, yX11_log, cX11_log, 5, none, 3, 109)
theorem mModel_log_r : mOwn mModel_log = 11 ∧ mMaxL mModel_log = 5 ∧ mRet mModel_log = none ∧ mFr mModel_log = 3 ∧ mLo mModel_log = 109 := ⟨rfl, rfl, rfl, rfl, rfl⟩
def mModel_becomes : MI := (11, yX11_becomes, cX11_becomes, 7, none, 4, 133)
theorem mModel_becomes_r : mOwn mModel_becomes = 11 ∧ mMaxL mModel_becomes = 7 ∧ mRet mModel_becomes = none ∧ mFr mModel_becomes = 4 ∧ mLo mModel_becomes = 133 := ⟨rfl, rfl, rfl, rfl, rfl⟩
def mModel_fix : MI := (11, yX11_fix, cX11_fix, 3, (some .int), 6, 189)
theorem mModel_fix_r : mOwn mModel_fix = 11 ∧ mMaxL mModel_fix = 3 ∧ mRet mModel_fix = (some .int) ∧ mFr mModel_fix = 6 ∧ mLo mModel_fix = 189 := ⟨rfl, rfl, rfl, rfl, rfl⟩
def mModel_choose : MI := (11, yX11_choose, cX11_choose, 2, (some .int), 6, 189)
theorem mModel_choose_r : mOwn mModel_choose = 11 ∧ mMaxL mModel_choose = 2 ∧ mRet mModel_choose = (some .int) ∧ mFr mModel_choose = 6 ∧ mLo mModel_choose = 189 := ⟨rfl, rfl, rfl, rfl, rfl⟩
def mModel_pairs : MI := (11, yX11_pairs, cX11_pairs, 8, (some .int), 2, 86)
theorem mModel_pairs_r : mOwn mModel_pairs = 11 ∧ mMaxL mModel_pairs = 8 ∧ mRet mModel_pairs = (some .int) ∧ mFr mModel_pairs = 2 ∧ mLo mModel_pairs = 86 := ⟨rfl, rfl, rfl, rfl, rfl⟩
def mModel_compare : MI := (11, yX11_compare, cX11_compare, 8, none, 5, 155)
theorem mModel_compare_r : mOwn mModel_compare = 11 ∧ mMaxL mModel_compare = 8 ∧ mRet mModel_compare = none ∧ mFr mModel_compare = 5 ∧ mLo mModel_compare = 155 := ⟨rfl, rfl, rfl, rfl, rfl⟩
def mModel_mayCome : MI := (11, yX11_mayCome, cX11_mayCome, 6, (some .boolean), 2, 86)
theorem mModel_mayCome_r : mOwn mModel_mayCome = 11 ∧ mMaxL mModel_mayCome = 6 ∧ mRet mModel_mayCome = (some .boolean) ∧ mFr mModel_mayCome = 2 ∧ mLo mModel_mayCome = 86 := ⟨rfl, rfl, rfl, rfl, rfl⟩
def mModel_hints : MI := (11, yX11_hints, cX11_hints, 5, none, 5, 155)
theorem mModel_hints_r : mOwn mModel_hints = 11 ∧ mMaxL mModel_hints = 5 ∧ mRet mModel_hints = none ∧ mFr mModel_hints = 5 ∧ mLo mModel_hints = 155 := ⟨rfl, rfl, rfl, rfl, rfl⟩
def mModel_told : MI := (11, yX11_told, cX11_told, 2, (some .int), 6, 189)
theorem mModel_told_r : mOwn mModel_told = 11 ∧ mMaxL mModel_told = 2 ∧ mRet mModel_told = (some .int) ∧ mFr mModel_told = 6 ∧ mLo mModel_told = 189 := ⟨rfl, rfl, rfl, rfl, rfl⟩
def mModel_missing : MI := (11, yX11_missing, cX11_missing, 2, (some .int), 6, 182)
theorem mModel_missing_r : mOwn mModel_missing = 11 ∧ mMaxL mModel_missing = 2 ∧ mRet mModel_missing = (some .int) ∧ mFr mModel_missing = 6 ∧ mLo mModel_missing = 182 := ⟨rfl, rfl, rfl, rfl, rfl⟩
def mModel_hint : MI := (11, yX11_hint, cX11_hint, 2, (some .int), 6, 179)
theorem mModel_hint_r : mOwn mModel_hint = 11 ∧ mMaxL mModel_hint = 2 ∧ mRet mModel_hint = (some .int) ∧ mFr mModel_hint = 6 ∧ mLo mModel_hint = 179 := ⟨rfl, rfl, rfl, rfl, rfl⟩
def mModel_verbs : MI := (11, yX11_verbs, cX11_verbs, 9, (some .int), 3, 108)
theorem mModel_verbs_r : mOwn mModel_verbs = 11 ∧ mMaxL mModel_verbs = 9 ∧ mRet mModel_verbs = (some .int) ∧ mFr mModel_verbs = 3 ∧ mLo mModel_verbs = 108 := ⟨rfl, rfl, rfl, rfl, rfl⟩
def mModel_edits : MI := (11, yX11_edits, cX11_edits, 4, (some .int), 5, 164)
theorem mModel_edits_r : mOwn mModel_edits = 11 ∧ mMaxL mModel_edits = 4 ∧ mRet mModel_edits = (some .int) ∧ mFr mModel_edits = 5 ∧ mLo mModel_edits = 164 := ⟨rfl, rfl, rfl, rfl, rfl⟩
def mModel_cell : MI := (11, yX11_cell, cX11_cell, 3, (some .int), 2, 86)
theorem mModel_cell_r : mOwn mModel_cell = 11 ∧ mMaxL mModel_cell = 3 ∧ mRet mModel_cell = (some .int) ∧ mFr mModel_cell = 2 ∧ mLo mModel_cell = 86 := ⟨rfl, rfl, rfl, rfl, rfl⟩
def mModel_put : MI := (11, yX11_put, cX11_put, 5, (some .int), 1, 64)
theorem mModel_put_r : mOwn mModel_put = 11 ∧ mMaxL mModel_put = 5 ∧ mRet mModel_put = (some .int) ∧ mFr mModel_put = 1 ∧ mLo mModel_put = 64 := ⟨rfl, rfl, rfl, rfl, rfl⟩
def mModel_forward : MI := (11, yX11_forward, cX11_forward, 3, (some .int), 1, 64)
theorem mModel_forward_r : mOwn mModel_forward = 11 ∧ mMaxL mModel_forward = 3 ∧ mRet mModel_forward = (some .int) ∧ mFr mModel_forward = 1 ∧ mLo mModel_forward = 64 := ⟨rfl, rfl, rfl, rfl, rfl⟩
def mModel_pair : MI := (11, yX11_pair, cX11_pair, 4, (some .int), 2, 88)
theorem mModel_pair_r : mOwn mModel_pair = 11 ∧ mMaxL mModel_pair = 4 ∧ mRet mModel_pair = (some .int) ∧ mFr mModel_pair = 2 ∧ mLo mModel_pair = 88 := ⟨rfl, rfl, rfl, rfl, rfl⟩
def mModel_learn : MI := (11, yX11_learn, cX11_learn, 9, (some .int), 3, 111)
theorem mModel_learn_r : mOwn mModel_learn = 11 ∧ mMaxL mModel_learn = 9 ∧ mRet mModel_learn = (some .int) ∧ mFr mModel_learn = 3 ∧ mLo mModel_learn = 111 := ⟨rfl, rfl, rfl, rfl, rfl⟩
def mModel_count : MI := (11, yX11_count, cX11_count, 2, (some .int), 4, 132)
theorem mModel_count_r : mOwn mModel_count = 11 ∧ mMaxL mModel_count = 2 ∧ mRet mModel_count = (some .int) ∧ mFr mModel_count = 4 ∧ mLo mModel_count = 132 := ⟨rfl, rfl, rfl, rfl, rfl⟩
def mLaw_cell : MI := (12, yL_cell, cL_cell, 5, (some .int), 3, 108)
theorem mLaw_cell_r : mOwn mLaw_cell = 12 ∧ mMaxL mLaw_cell = 5 ∧ mRet mLaw_cell = (some .int) ∧ mFr mLaw_cell = 3 ∧ mLo mLaw_cell = 108 := ⟨rfl, rfl, rfl, rfl, rfl⟩
def mLaw_law : MI := (12, yL_law, cL_law, 7, (some .boolean), 9, 242)
theorem mLaw_law_r : mOwn mLaw_law = 12 ∧ mMaxL mLaw_law = 7 ∧ mRet mLaw_law = (some .boolean) ∧ mFr mLaw_law = 9 ∧ mLo mLaw_law = 242 := ⟨rfl, rfl, rfl, rfl, rfl⟩
def FT : List (Nat × Nat × Nat × Nat × Bool × Bool × Nat) := [(0, 9, 0, 0, false, true, 192), (0, 15, 0, 1, false, true, 194), (0, 18, 0, 2, false, true, 198), (0, 21, 0, 3, false, true, 202), (0, 24, 0, 4, true, false, 207), (0, 28, 0, 5, true, false, 209), (0, 31, 0, 6, true, false, 212), (0, 43, 2, 1, false, true, 110), (0, 46, 2, 0, false, true, 106), (1, 9, 1, 0, false, true, 376), (1, 15, 1, 1, false, true, 378), (1, 18, 1, 2, false, true, 380), (1, 21, 1, 3, false, true, 382), (1, 24, 1, 4, true, false, 384), (2, 9, 2, 0, false, true, 105), (2, 15, 2, 1, false, true, 109), (2, 18, 2, 2, false, true, 114), (2, 21, 2, 3, true, false, 117), (3, 9, 3, 0, false, true, 347), (3, 15, 3, 1, false, true, 348), (3, 19, 3, 2, false, true, 350), (3, 22, 3, 3, true, false, 351), (3, 26, 3, 4, true, false, 353), (3, 29, 3, 5, true, false, 355), (3, 32, 5, 7, true, false, 252), (3, 44, 5, 6, true, false, 248), (3, 54, 5, 3, false, true, 243), (3, 58, 6, 3, true, false, 174), (3, 61, 6, 0, false, true, 165), (3, 64, 5, 5, false, true, 246), (3, 67, 6, 1, false, true, 169), (3, 70, 5, 2, false, true, 241), (4, 9, 4, 0, false, true, 318), (4, 15, 4, 1, false, true, 319), (4, 19, 4, 2, false, true, 320), (4, 23, 4, 3, false, true, 322), (4, 26, 4, 4, false, true, 324), (4, 30, 4, 5, true, false, 326), (4, 34, 5, 7, true, false, 251), (4, 39, 8, 0, false, true, 292), (4, 45, 7, 0, false, true, 88), (4, 50, 5, 2, false, true, 240), (4, 54, 9, 4, true, false, 145), (4, 65, 5, 8, true, false, 255), (4, 68, 5, 0, false, true, 236), (4, 76, 8, 5, true, false, 300), (4, 79, 0, 3, false, true, 204), (4, 84, 5, 1, false, true, 238), (4, 88, 2, 1, false, true, 111), (5, 9, 5, 0, false, true, 235), (5, 15, 5, 1, false, true, 237), (5, 19, 5, 2, false, true, 239), (5, 23, 5, 3, false, true, 242), (5, 27, 5, 4, false, true, 244), (5, 31, 5, 5, false, true, 245), (5, 34, 5, 6, true, false, 247), (5, 38, 5, 7, true, false, 250), (5, 41, 5, 8, true, false, 254), (5, 44, 5, 9, true, false, 257), (5, 47, 5, 10, true, false, 258), (5, 57, 0, 1, false, true, 195), (5, 62, 0, 2, false, true, 199), (5, 65, 0, 3, false, true, 203), (5, 74, 2, 2, false, true, 116), (5, 77, 0, 5, true, false, 210), (5, 99, 9, 2, false, true, 141), (5, 103, 6, 3, true, false, 176), (5, 106, 6, 1, false, true, 170), (5, 111, 6, 0, false, true, 166), (5, 124, 9, 0, false, true, 136), (6, 9, 6, 0, false, true, 164), (6, 15, 6, 1, false, true, 168), (6, 18, 6, 2, false, true, 172), (6, 21, 6, 3, true, false, 173), (7, 13, 7, 0, false, true, 87), (7, 24, 7, 1, false, true, 91), (8, 9, 8, 0, false, true, 291), (8, 15, 8, 1, false, true, 293), (8, 19, 8, 2, false, true, 294), (8, 23, 8, 3, true, false, 295), (8, 27, 8, 4, true, false, 297), (8, 30, 8, 5, true, false, 299), (8, 33, 2, 3, true, false, 118), (8, 38, 2, 2, false, true, 115), (8, 45, 0, 3, false, true, 205), (8, 50, 2, 1, false, true, 112), (8, 51, 0, 2, false, true, 200), (8, 54, 7, 0, false, true, 89), (8, 59, 0, 1, false, true, 196), (8, 70, 2, 0, false, true, 107), (9, 9, 9, 0, false, true, 135), (9, 15, 9, 1, false, true, 137), (9, 18, 9, 2, false, true, 139), (9, 22, 9, 3, false, true, 142), (9, 25, 9, 4, true, false, 144), (10, 9, 10, 0, false, true, 397), (10, 13, 10, 1, true, false, 398), (10, 17, 10, 2, false, true, 399), (10, 23, 10, 3, false, true, 400), (10, 30, 10, 4, false, true, 401), (10, 37, 10, 5, false, true, 402), (10, 44, 10, 6, false, true, 403), (10, 51, 10, 7, false, true, 404), (10, 60, 10, 8, false, true, 405), (10, 74, 10, 9, false, true, 406), (10, 83, 10, 10, false, true, 407), (10, 90, 10, 11, false, true, 408), (10, 94, 10, 12, false, true, 409), (10, 106, 9, 4, true, false, 146), (10, 109, 2, 3, true, false, 119), (10, 121, 9, 2, false, true, 140), (10, 125, 9, 1, false, true, 138), (10, 128, 9, 3, false, true, 143), (10, 131, 6, 3, true, false, 175), (10, 133, 6, 1, false, true, 171), (10, 149, 7, 0, false, true, 90), (10, 163, 0, 5, true, false, 211), (10, 166, 0, 4, true, false, 208), (10, 167, 0, 0, false, true, 193), (10, 170, 0, 2, false, true, 201), (10, 173, 0, 3, false, true, 206), (10, 180, 5, 7, true, false, 253), (10, 183, 5, 6, true, false, 249), (10, 184, 5, 8, true, false, 256), (10, 187, 5, 10, true, false, 259), (10, 191, 4, 5, true, false, 327), (10, 193, 3, 3, true, false, 352), (10, 194, 3, 4, true, false, 354), (10, 197, 3, 5, true, false, 356), (10, 204, 0, 6, true, false, 213), (10, 207, 4, 2, false, true, 321), (10, 210, 4, 3, false, true, 323), (10, 213, 4, 4, false, true, 325), (10, 224, 3, 1, false, true, 349), (10, 240, 8, 3, true, false, 296), (10, 243, 8, 4, true, false, 298), (10, 262, 1, 2, false, true, 381), (10, 264, 1, 3, false, true, 383), (10, 267, 1, 1, false, true, 379), (10, 268, 1, 0, false, true, 377), (10, 271, 2, 0, false, true, 108), (10, 272, 2, 1, false, true, 113), (10, 280, 1, 4, true, false, 385), (10, 287, 0, 1, false, true, 197), (10, 298, 6, 0, false, true, 167), (11, 1, 11, 0, true, false, 884), (11, 13, 11, 2, false, true, 886), (11, 17, 11, 3, false, true, 887), (11, 21, 11, 4, false, true, 888), (11, 24, 11, 5, false, true, 889), (11, 27, 11, 7, false, true, 891), (11, 30, 11, 8, false, true, 892), (11, 33, 11, 9, false, true, 893), (11, 36, 11, 11, false, true, 895), (11, 39, 11, 12, false, true, 896), (11, 42, 11, 13, false, true, 897), (11, 45, 11, 14, false, true, 898), (11, 48, 11, 15, false, true, 899), (11, 51, 11, 17, false, true, 901), (11, 54, 11, 19, false, true, 903), (11, 57, 11, 20, false, true, 904), (11, 60, 11, 21, true, false, 905), (11, 63, 11, 23, false, true, 907), (11, 66, 11, 24, false, true, 908), (11, 69, 11, 25, false, true, 909), (11, 72, 11, 27, false, true, 911), (11, 75, 11, 28, false, true, 912), (11, 78, 11, 31, false, true, 915), (11, 81, 11, 32, false, true, 916), (11, 84, 11, 36, false, true, 920), (11, 87, 11, 37, false, true, 921), (11, 90, 11, 38, false, true, 922), (11, 93, 11, 40, false, true, 924), (11, 96, 11, 41, false, true, 925), (11, 99, 11, 42, false, true, 926), (11, 102, 11, 43, false, true, 927), (11, 105, 11, 44, false, true, 928), (11, 108, 11, 47, false, true, 931), (11, 111, 11, 50, false, true, 934), (11, 114, 11, 51, false, true, 935), (11, 117, 11, 52, true, false, 936), (11, 124, 11, 6, true, false, 890), (11, 131, 11, 16, true, false, 900), (11, 140, 11, 1, true, false, 885), (11, 151, 11, 10, true, false, 894), (11, 158, 11, 22, true, false, 906), (11, 161, 11, 18, true, false, 902), (11, 171, 11, 26, true, false, 910), (11, 180, 11, 30, true, false, 914), (11, 183, 11, 29, true, false, 913), (11, 201, 11, 33, true, false, 917), (11, 208, 11, 34, true, false, 918), (11, 211, 11, 35, true, false, 919), (11, 223, 11, 39, true, false, 923), (11, 236, 11, 45, true, false, 929), (11, 239, 11, 46, true, false, 930), (11, 242, 11, 48, true, false, 932), (11, 248, 11, 49, true, false, 933), (11, 260, 11, 53, true, false, 937)]
def fieldAt (o i : Nat) : Option (Nat × Nat × Bool × Bool) := (FT.find? (fun e => e.1 == o && e.2.1 == i)).map (fun e => (e.2.2.1, e.2.2.2.1, e.2.2.2.2.1, e.2.2.2.2.2.1))
def isRefTy (t : FieldType) : Bool := match t with
  | .object _ => true
  | .array _ => true
  | _ => false
theorem FT_ok : ∀ e ∈ FT, e.2.2.1 < 12 ∧ e.2.2.2.1 < NN e.2.2.1 ∧ lw_tbl[e.2.2.2.2.2.2]? = some (Cond.fieldLink (RN e.1) e.2.1 (TN e.2.2.1 e.2.2.2.1).1 (TN e.2.2.1 e.2.2.2.1).2.1 (TN e.2.2.1 e.2.2.2.1).2.2.1) ∧ (if e.2.2.2.2.1 then tyN e.2.2.1 e.2.2.2.1 = .int else isRefTy (tyN e.2.2.1 e.2.2.2.1) = true) ∧ (TN e.2.2.1 e.2.2.2.1).2.2.2 = e.2.2.2.2.2.1 := by decide +kernel
theorem fieldAt_ok {o i ci j : Nat} {b1 b2 : Bool} (hf : fieldAt o i = some (ci, j, b1, b2)) : FOK o i ci j ∧ (b1 = true → tyN ci j = .int) ∧ (b1 = false → isRefTy (tyN ci j) = true) ∧ (TN ci j).2.2.2 = b2 := by
  unfold fieldAt at hf
  obtain ⟨e, he, e2⟩ := Option.map_eq_some_iff.mp hf
  have hm := FT_ok e (List.mem_of_find?_eq_some he)
  have hp := List.find?_some he
  simp only [Bool.and_eq_true, beq_iff_eq] at hp
  obtain ⟨a, b, c, d, f, g, pl⟩ := e
  obtain ⟨rfl, rfl⟩ := hp
  cases e2
  obtain ⟨h1, h2, h3, h4, h5⟩ := hm
  refine ⟨⟨h1, h2, mem_TBL (List.mem_of_getElem? h3) rfl⟩, fun hb => ?_, fun hb => ?_, h5⟩
  · simp only at h4 hb
    rw [hb] at h4
    exact h4
  · simp only at h4 hb
    rw [hb] at h4
    exact h4
theorem fa_0_9 : fieldAt 0 9 = some (0, 0, false, true) := by decide +kernel
theorem fa_0_15 : fieldAt 0 15 = some (0, 1, false, true) := by decide +kernel
theorem fa_0_18 : fieldAt 0 18 = some (0, 2, false, true) := by decide +kernel
theorem fa_0_21 : fieldAt 0 21 = some (0, 3, false, true) := by decide +kernel
theorem fa_0_24 : fieldAt 0 24 = some (0, 4, true, false) := by decide +kernel
theorem fa_0_28 : fieldAt 0 28 = some (0, 5, true, false) := by decide +kernel
theorem fa_0_31 : fieldAt 0 31 = some (0, 6, true, false) := by decide +kernel
theorem fa_0_43 : fieldAt 0 43 = some (2, 1, false, true) := by decide +kernel
theorem fa_0_46 : fieldAt 0 46 = some (2, 0, false, true) := by decide +kernel
theorem fa_1_9 : fieldAt 1 9 = some (1, 0, false, true) := by decide +kernel
theorem fa_1_15 : fieldAt 1 15 = some (1, 1, false, true) := by decide +kernel
theorem fa_1_18 : fieldAt 1 18 = some (1, 2, false, true) := by decide +kernel
theorem fa_1_21 : fieldAt 1 21 = some (1, 3, false, true) := by decide +kernel
theorem fa_1_24 : fieldAt 1 24 = some (1, 4, true, false) := by decide +kernel
theorem fa_2_9 : fieldAt 2 9 = some (2, 0, false, true) := by decide +kernel
theorem fa_2_15 : fieldAt 2 15 = some (2, 1, false, true) := by decide +kernel
theorem fa_2_18 : fieldAt 2 18 = some (2, 2, false, true) := by decide +kernel
theorem fa_2_21 : fieldAt 2 21 = some (2, 3, true, false) := by decide +kernel
theorem fa_3_9 : fieldAt 3 9 = some (3, 0, false, true) := by decide +kernel
theorem fa_3_15 : fieldAt 3 15 = some (3, 1, false, true) := by decide +kernel
theorem fa_3_19 : fieldAt 3 19 = some (3, 2, false, true) := by decide +kernel
theorem fa_3_22 : fieldAt 3 22 = some (3, 3, true, false) := by decide +kernel
theorem fa_3_26 : fieldAt 3 26 = some (3, 4, true, false) := by decide +kernel
theorem fa_3_29 : fieldAt 3 29 = some (3, 5, true, false) := by decide +kernel
theorem fa_3_32 : fieldAt 3 32 = some (5, 7, true, false) := by decide +kernel
theorem fa_3_44 : fieldAt 3 44 = some (5, 6, true, false) := by decide +kernel
theorem fa_3_54 : fieldAt 3 54 = some (5, 3, false, true) := by decide +kernel
theorem fa_3_58 : fieldAt 3 58 = some (6, 3, true, false) := by decide +kernel
theorem fa_3_61 : fieldAt 3 61 = some (6, 0, false, true) := by decide +kernel
theorem fa_3_64 : fieldAt 3 64 = some (5, 5, false, true) := by decide +kernel
theorem fa_3_67 : fieldAt 3 67 = some (6, 1, false, true) := by decide +kernel
theorem fa_3_70 : fieldAt 3 70 = some (5, 2, false, true) := by decide +kernel
theorem fa_4_9 : fieldAt 4 9 = some (4, 0, false, true) := by decide +kernel
theorem fa_4_15 : fieldAt 4 15 = some (4, 1, false, true) := by decide +kernel
theorem fa_4_19 : fieldAt 4 19 = some (4, 2, false, true) := by decide +kernel
theorem fa_4_23 : fieldAt 4 23 = some (4, 3, false, true) := by decide +kernel
theorem fa_4_26 : fieldAt 4 26 = some (4, 4, false, true) := by decide +kernel
theorem fa_4_30 : fieldAt 4 30 = some (4, 5, true, false) := by decide +kernel
theorem fa_4_34 : fieldAt 4 34 = some (5, 7, true, false) := by decide +kernel
theorem fa_4_39 : fieldAt 4 39 = some (8, 0, false, true) := by decide +kernel
theorem fa_4_45 : fieldAt 4 45 = some (7, 0, false, true) := by decide +kernel
theorem fa_4_50 : fieldAt 4 50 = some (5, 2, false, true) := by decide +kernel
theorem fa_4_54 : fieldAt 4 54 = some (9, 4, true, false) := by decide +kernel
theorem fa_4_65 : fieldAt 4 65 = some (5, 8, true, false) := by decide +kernel
theorem fa_4_68 : fieldAt 4 68 = some (5, 0, false, true) := by decide +kernel
theorem fa_4_76 : fieldAt 4 76 = some (8, 5, true, false) := by decide +kernel
theorem fa_4_79 : fieldAt 4 79 = some (0, 3, false, true) := by decide +kernel
theorem fa_4_84 : fieldAt 4 84 = some (5, 1, false, true) := by decide +kernel
theorem fa_4_88 : fieldAt 4 88 = some (2, 1, false, true) := by decide +kernel
theorem fa_5_9 : fieldAt 5 9 = some (5, 0, false, true) := by decide +kernel
theorem fa_5_15 : fieldAt 5 15 = some (5, 1, false, true) := by decide +kernel
theorem fa_5_19 : fieldAt 5 19 = some (5, 2, false, true) := by decide +kernel
theorem fa_5_23 : fieldAt 5 23 = some (5, 3, false, true) := by decide +kernel
theorem fa_5_27 : fieldAt 5 27 = some (5, 4, false, true) := by decide +kernel
theorem fa_5_31 : fieldAt 5 31 = some (5, 5, false, true) := by decide +kernel
theorem fa_5_34 : fieldAt 5 34 = some (5, 6, true, false) := by decide +kernel
theorem fa_5_38 : fieldAt 5 38 = some (5, 7, true, false) := by decide +kernel
theorem fa_5_41 : fieldAt 5 41 = some (5, 8, true, false) := by decide +kernel
theorem fa_5_44 : fieldAt 5 44 = some (5, 9, true, false) := by decide +kernel
theorem fa_5_47 : fieldAt 5 47 = some (5, 10, true, false) := by decide +kernel
theorem fa_5_57 : fieldAt 5 57 = some (0, 1, false, true) := by decide +kernel
theorem fa_5_62 : fieldAt 5 62 = some (0, 2, false, true) := by decide +kernel
theorem fa_5_65 : fieldAt 5 65 = some (0, 3, false, true) := by decide +kernel
theorem fa_5_74 : fieldAt 5 74 = some (2, 2, false, true) := by decide +kernel
theorem fa_5_77 : fieldAt 5 77 = some (0, 5, true, false) := by decide +kernel
theorem fa_5_99 : fieldAt 5 99 = some (9, 2, false, true) := by decide +kernel
theorem fa_5_103 : fieldAt 5 103 = some (6, 3, true, false) := by decide +kernel
theorem fa_5_106 : fieldAt 5 106 = some (6, 1, false, true) := by decide +kernel
theorem fa_5_111 : fieldAt 5 111 = some (6, 0, false, true) := by decide +kernel
theorem fa_5_124 : fieldAt 5 124 = some (9, 0, false, true) := by decide +kernel
theorem fa_6_9 : fieldAt 6 9 = some (6, 0, false, true) := by decide +kernel
theorem fa_6_15 : fieldAt 6 15 = some (6, 1, false, true) := by decide +kernel
theorem fa_6_18 : fieldAt 6 18 = some (6, 2, false, true) := by decide +kernel
theorem fa_6_21 : fieldAt 6 21 = some (6, 3, true, false) := by decide +kernel
theorem fa_7_13 : fieldAt 7 13 = some (7, 0, false, true) := by decide +kernel
theorem fa_7_24 : fieldAt 7 24 = some (7, 1, false, true) := by decide +kernel
theorem fa_8_9 : fieldAt 8 9 = some (8, 0, false, true) := by decide +kernel
theorem fa_8_15 : fieldAt 8 15 = some (8, 1, false, true) := by decide +kernel
theorem fa_8_19 : fieldAt 8 19 = some (8, 2, false, true) := by decide +kernel
theorem fa_8_23 : fieldAt 8 23 = some (8, 3, true, false) := by decide +kernel
theorem fa_8_27 : fieldAt 8 27 = some (8, 4, true, false) := by decide +kernel
theorem fa_8_30 : fieldAt 8 30 = some (8, 5, true, false) := by decide +kernel
theorem fa_8_33 : fieldAt 8 33 = some (2, 3, true, false) := by decide +kernel
theorem fa_8_38 : fieldAt 8 38 = some (2, 2, false, true) := by decide +kernel
theorem fa_8_45 : fieldAt 8 45 = some (0, 3, false, true) := by decide +kernel
theorem fa_8_50 : fieldAt 8 50 = some (2, 1, false, true) := by decide +kernel
theorem fa_8_51 : fieldAt 8 51 = some (0, 2, false, true) := by decide +kernel
theorem fa_8_54 : fieldAt 8 54 = some (7, 0, false, true) := by decide +kernel
theorem fa_8_59 : fieldAt 8 59 = some (0, 1, false, true) := by decide +kernel
theorem fa_8_70 : fieldAt 8 70 = some (2, 0, false, true) := by decide +kernel
theorem fa_9_9 : fieldAt 9 9 = some (9, 0, false, true) := by decide +kernel
theorem fa_9_15 : fieldAt 9 15 = some (9, 1, false, true) := by decide +kernel
theorem fa_9_18 : fieldAt 9 18 = some (9, 2, false, true) := by decide +kernel
theorem fa_9_22 : fieldAt 9 22 = some (9, 3, false, true) := by decide +kernel
theorem fa_9_25 : fieldAt 9 25 = some (9, 4, true, false) := by decide +kernel
theorem fa_10_9 : fieldAt 10 9 = some (10, 0, false, true) := by decide +kernel
theorem fa_10_13 : fieldAt 10 13 = some (10, 1, true, false) := by decide +kernel
theorem fa_10_17 : fieldAt 10 17 = some (10, 2, false, true) := by decide +kernel
theorem fa_10_23 : fieldAt 10 23 = some (10, 3, false, true) := by decide +kernel
theorem fa_10_30 : fieldAt 10 30 = some (10, 4, false, true) := by decide +kernel
theorem fa_10_37 : fieldAt 10 37 = some (10, 5, false, true) := by decide +kernel
theorem fa_10_44 : fieldAt 10 44 = some (10, 6, false, true) := by decide +kernel
theorem fa_10_51 : fieldAt 10 51 = some (10, 7, false, true) := by decide +kernel
theorem fa_10_60 : fieldAt 10 60 = some (10, 8, false, true) := by decide +kernel
theorem fa_10_74 : fieldAt 10 74 = some (10, 9, false, true) := by decide +kernel
theorem fa_10_83 : fieldAt 10 83 = some (10, 10, false, true) := by decide +kernel
theorem fa_10_90 : fieldAt 10 90 = some (10, 11, false, true) := by decide +kernel
theorem fa_10_94 : fieldAt 10 94 = some (10, 12, false, true) := by decide +kernel
theorem fa_10_106 : fieldAt 10 106 = some (9, 4, true, false) := by decide +kernel
theorem fa_10_109 : fieldAt 10 109 = some (2, 3, true, false) := by decide +kernel
theorem fa_10_121 : fieldAt 10 121 = some (9, 2, false, true) := by decide +kernel
theorem fa_10_125 : fieldAt 10 125 = some (9, 1, false, true) := by decide +kernel
theorem fa_10_128 : fieldAt 10 128 = some (9, 3, false, true) := by decide +kernel
theorem fa_10_131 : fieldAt 10 131 = some (6, 3, true, false) := by decide +kernel
theorem fa_10_133 : fieldAt 10 133 = some (6, 1, false, true) := by decide +kernel
theorem fa_10_149 : fieldAt 10 149 = some (7, 0, false, true) := by decide +kernel
theorem fa_10_163 : fieldAt 10 163 = some (0, 5, true, false) := by decide +kernel
theorem fa_10_166 : fieldAt 10 166 = some (0, 4, true, false) := by decide +kernel
theorem fa_10_167 : fieldAt 10 167 = some (0, 0, false, true) := by decide +kernel
theorem fa_10_170 : fieldAt 10 170 = some (0, 2, false, true) := by decide +kernel
theorem fa_10_173 : fieldAt 10 173 = some (0, 3, false, true) := by decide +kernel
theorem fa_10_180 : fieldAt 10 180 = some (5, 7, true, false) := by decide +kernel
theorem fa_10_183 : fieldAt 10 183 = some (5, 6, true, false) := by decide +kernel
theorem fa_10_184 : fieldAt 10 184 = some (5, 8, true, false) := by decide +kernel
theorem fa_10_187 : fieldAt 10 187 = some (5, 10, true, false) := by decide +kernel
theorem fa_10_191 : fieldAt 10 191 = some (4, 5, true, false) := by decide +kernel
theorem fa_10_193 : fieldAt 10 193 = some (3, 3, true, false) := by decide +kernel
theorem fa_10_194 : fieldAt 10 194 = some (3, 4, true, false) := by decide +kernel
theorem fa_10_197 : fieldAt 10 197 = some (3, 5, true, false) := by decide +kernel
theorem fa_10_204 : fieldAt 10 204 = some (0, 6, true, false) := by decide +kernel
theorem fa_10_207 : fieldAt 10 207 = some (4, 2, false, true) := by decide +kernel
theorem fa_10_210 : fieldAt 10 210 = some (4, 3, false, true) := by decide +kernel
theorem fa_10_213 : fieldAt 10 213 = some (4, 4, false, true) := by decide +kernel
theorem fa_10_224 : fieldAt 10 224 = some (3, 1, false, true) := by decide +kernel
theorem fa_10_240 : fieldAt 10 240 = some (8, 3, true, false) := by decide +kernel
theorem fa_10_243 : fieldAt 10 243 = some (8, 4, true, false) := by decide +kernel
theorem fa_10_262 : fieldAt 10 262 = some (1, 2, false, true) := by decide +kernel
theorem fa_10_264 : fieldAt 10 264 = some (1, 3, false, true) := by decide +kernel
theorem fa_10_267 : fieldAt 10 267 = some (1, 1, false, true) := by decide +kernel
theorem fa_10_268 : fieldAt 10 268 = some (1, 0, false, true) := by decide +kernel
theorem fa_10_271 : fieldAt 10 271 = some (2, 0, false, true) := by decide +kernel
theorem fa_10_272 : fieldAt 10 272 = some (2, 1, false, true) := by decide +kernel
theorem fa_10_280 : fieldAt 10 280 = some (1, 4, true, false) := by decide +kernel
theorem fa_10_287 : fieldAt 10 287 = some (0, 1, false, true) := by decide +kernel
theorem fa_10_298 : fieldAt 10 298 = some (6, 0, false, true) := by decide +kernel
theorem fa_11_1 : fieldAt 11 1 = some (11, 0, true, false) := by decide +kernel
theorem fa_11_13 : fieldAt 11 13 = some (11, 2, false, true) := by decide +kernel
theorem fa_11_17 : fieldAt 11 17 = some (11, 3, false, true) := by decide +kernel
theorem fa_11_21 : fieldAt 11 21 = some (11, 4, false, true) := by decide +kernel
theorem fa_11_24 : fieldAt 11 24 = some (11, 5, false, true) := by decide +kernel
theorem fa_11_27 : fieldAt 11 27 = some (11, 7, false, true) := by decide +kernel
theorem fa_11_30 : fieldAt 11 30 = some (11, 8, false, true) := by decide +kernel
theorem fa_11_33 : fieldAt 11 33 = some (11, 9, false, true) := by decide +kernel
theorem fa_11_36 : fieldAt 11 36 = some (11, 11, false, true) := by decide +kernel
theorem fa_11_39 : fieldAt 11 39 = some (11, 12, false, true) := by decide +kernel
theorem fa_11_42 : fieldAt 11 42 = some (11, 13, false, true) := by decide +kernel
theorem fa_11_45 : fieldAt 11 45 = some (11, 14, false, true) := by decide +kernel
theorem fa_11_48 : fieldAt 11 48 = some (11, 15, false, true) := by decide +kernel
theorem fa_11_51 : fieldAt 11 51 = some (11, 17, false, true) := by decide +kernel
theorem fa_11_54 : fieldAt 11 54 = some (11, 19, false, true) := by decide +kernel
theorem fa_11_57 : fieldAt 11 57 = some (11, 20, false, true) := by decide +kernel
theorem fa_11_60 : fieldAt 11 60 = some (11, 21, true, false) := by decide +kernel
theorem fa_11_63 : fieldAt 11 63 = some (11, 23, false, true) := by decide +kernel
theorem fa_11_66 : fieldAt 11 66 = some (11, 24, false, true) := by decide +kernel
theorem fa_11_69 : fieldAt 11 69 = some (11, 25, false, true) := by decide +kernel
theorem fa_11_72 : fieldAt 11 72 = some (11, 27, false, true) := by decide +kernel
theorem fa_11_75 : fieldAt 11 75 = some (11, 28, false, true) := by decide +kernel
theorem fa_11_78 : fieldAt 11 78 = some (11, 31, false, true) := by decide +kernel
theorem fa_11_81 : fieldAt 11 81 = some (11, 32, false, true) := by decide +kernel
theorem fa_11_84 : fieldAt 11 84 = some (11, 36, false, true) := by decide +kernel
theorem fa_11_87 : fieldAt 11 87 = some (11, 37, false, true) := by decide +kernel
theorem fa_11_90 : fieldAt 11 90 = some (11, 38, false, true) := by decide +kernel
theorem fa_11_93 : fieldAt 11 93 = some (11, 40, false, true) := by decide +kernel
theorem fa_11_96 : fieldAt 11 96 = some (11, 41, false, true) := by decide +kernel
theorem fa_11_99 : fieldAt 11 99 = some (11, 42, false, true) := by decide +kernel
theorem fa_11_102 : fieldAt 11 102 = some (11, 43, false, true) := by decide +kernel
theorem fa_11_105 : fieldAt 11 105 = some (11, 44, false, true) := by decide +kernel
theorem fa_11_108 : fieldAt 11 108 = some (11, 47, false, true) := by decide +kernel
theorem fa_11_111 : fieldAt 11 111 = some (11, 50, false, true) := by decide +kernel
theorem fa_11_114 : fieldAt 11 114 = some (11, 51, false, true) := by decide +kernel
theorem fa_11_117 : fieldAt 11 117 = some (11, 52, true, false) := by decide +kernel
theorem fa_11_124 : fieldAt 11 124 = some (11, 6, true, false) := by decide +kernel
theorem fa_11_131 : fieldAt 11 131 = some (11, 16, true, false) := by decide +kernel
theorem fa_11_140 : fieldAt 11 140 = some (11, 1, true, false) := by decide +kernel
theorem fa_11_151 : fieldAt 11 151 = some (11, 10, true, false) := by decide +kernel
theorem fa_11_158 : fieldAt 11 158 = some (11, 22, true, false) := by decide +kernel
theorem fa_11_161 : fieldAt 11 161 = some (11, 18, true, false) := by decide +kernel
theorem fa_11_171 : fieldAt 11 171 = some (11, 26, true, false) := by decide +kernel
theorem fa_11_180 : fieldAt 11 180 = some (11, 30, true, false) := by decide +kernel
theorem fa_11_183 : fieldAt 11 183 = some (11, 29, true, false) := by decide +kernel
theorem fa_11_201 : fieldAt 11 201 = some (11, 33, true, false) := by decide +kernel
theorem fa_11_208 : fieldAt 11 208 = some (11, 34, true, false) := by decide +kernel
theorem fa_11_211 : fieldAt 11 211 = some (11, 35, true, false) := by decide +kernel
theorem fa_11_223 : fieldAt 11 223 = some (11, 39, true, false) := by decide +kernel
theorem fa_11_236 : fieldAt 11 236 = some (11, 45, true, false) := by decide +kernel
theorem fa_11_239 : fieldAt 11 239 = some (11, 46, true, false) := by decide +kernel
theorem fa_11_242 : fieldAt 11 242 = some (11, 48, true, false) := by decide +kernel
theorem fa_11_248 : fieldAt 11 248 = some (11, 49, true, false) := by decide +kernel
theorem fa_11_260 : fieldAt 11 260 = some (11, 53, true, false) := by decide +kernel
def SFT : List (Nat × Nat × Nat × Nat) := [(10, 140, 1001, 501), (10, 143, 1002, 502), (10, 146, 1003, 504)]
def statAt (o i : Nat) : Option Nat := (SFT.find? (fun e => e.1 == o && e.2.1 == i)).map (fun e => e.2.2.1)
theorem SFT_ok : ∀ e ∈ SFT, 1001 ≤ e.2.2.1 ∧ e.2.2.1 ≤ 1003 ∧ lw_tbl[e.2.2.2]? = some (Cond.fieldLink (RN e.1) e.2.1 RX10 (roN e.2.2.1) "[I") := by decide +kernel
theorem statAt_ok {o i k : Nat} (hf : statAt o i = some k) : (1001 ≤ k ∧ k ≤ 1003) ∧ Cond.fieldLink (RN o) i RX10 (roN k) "[I" ∈ TBL := by
  unfold statAt at hf
  obtain ⟨e, he, e2⟩ := Option.map_eq_some_iff.mp hf
  have hm := SFT_ok e (List.mem_of_find?_eq_some he)
  have hp := List.find?_some he
  simp only [Bool.and_eq_true, beq_iff_eq] at hp
  obtain ⟨a, b, c, d⟩ := e
  obtain ⟨rfl, rfl⟩ := hp
  cases e2
  obtain ⟨h1, h2, h3⟩ := hm
  exact ⟨⟨h1, h2⟩, mem_TBL (List.mem_of_getElem? h3) rfl⟩
theorem sa_10_140 : statAt 10 140 = some 1001 := by decide +kernel
theorem sa_10_143 : statAt 10 143 = some 1002 := by decide +kernel
theorem sa_10_146 : statAt 10 146 = some 1003 := by decide +kernel
def MT : List (Nat × Nat × Nat × Nat × MI × Nat × Nat × Nat × Nat × Nat) := [(0, 40, 0, 0, mLine_split, 529, 54, 532, 531, 1), (0, 47, 2, 1, mHelp_letterOf, 533, 48, 523, 522, 0), (1, 28, 2, 5, mHelp_sameLetters, 715, 48, 455, 454, 0), (1, 32, 0, 4, mLog_isOfTyped, 711, 59, 714, 713, 21), (1, 42, 0, 2, mLog_move, 777, 59, 780, 779, 23), (2, 25, 2, 5, mHelp_sameLetters, 453, 48, 455, 454, 0), (3, 37, 0, 0, mNear_findRule, 645, 58, 648, 647, 12), (3, 40, 0, 1, mNear_countPairs, 649, 58, 652, 651, 13), (3, 47, 0, 2, mNear_pairsFrom, 653, 58, 656, 655, 14), (3, 51, 0, 0, mNear_collectMissing, 666, 58, 669, 668, 16), (3, 74, 0, 2, mRules_tokenAt, 664, 53, 584, 582, 583), (3, 77, 0, 2, mWords_isAs, 665, 52, 588, 586, 587), (3, 88, 0, 3, mNear_isPair, 660, 58, 663, 662, 15), (3, 92, 0, 3, mNear_findPartner, 670, 58, 673, 672, 17), (4, 57, 0, 1, mWords_isSeen, 598, 52, 601, 599, 600), (4, 61, 0, 1, mProp_consider, 602, 56, 605, 604, 8), (4, 72, 0, 3, mTable_nearestName, 606, 57, 609, 607, 608), (4, 91, 0, 1, mRead_wouldFit, 629, 55, 632, 630, 631), (4, 94, 0, 3, mProp_insert, 633, 56, 636, 635, 10), (4, 98, 0, 3, mProp_isBefore, 637, 56, 640, 639, 11), (5, 50, 0, 0, mRead_collectMeant, 555, 55, 558, 557, 2), (5, 53, 0, 0, mRead_judge, 561, 55, 564, 563, 3), (5, 68, 0, 3, mNames_find, 546, 51, 452, 450, 451), (5, 80, 0, 1, mRead_wordOfTyped, 559, 55, 545, 543, 544), (5, 84, 0, 2, mWords_isOf, 560, 52, 472, 470, 471), (5, 90, 0, 0, mRead_findUnknown, 565, 55, 568, 567, 4), (5, 93, 0, 0, mRead_findHidden, 569, 55, 572, 571, 5), (5, 96, 0, 0, mRead_findFitting, 573, 55, 576, 575, 6), (5, 107, 0, 1, mRead_beginsAs, 577, 55, 580, 579, 7), (5, 114, 0, 2, mRules_tokenAt, 581, 53, 584, 582, 583), (5, 118, 0, 2, mWords_isAs, 585, 52, 588, 586, 587), (5, 121, 0, 1, mWords_isSeen, 682, 52, 601, 599, 600), (5, 127, 0, 1, mRules_hasVerb, 683, 53, 686, 684, 685), (8, 41, 0, 3, mTable_fill, 610, 57, 613, 611, 612), (8, 62, 0, 5, mTable_leastCost, 614, 57, 617, 616, 9), (8, 66, 0, 2, mTable_cost, 618, 57, 621, 619, 620), (8, 71, 0, 2, mSett_costOfChange, 622, 49, 625, 623, 624), (9, 29, 0, 2, mWords_isOf, 589, 52, 472, 470, 471), (10, 98, 0, 1, mHelp_spell, 445, 48, 448, 447, 0), (10, 102, 0, 3, mNames_find, 449, 51, 452, 450, 451), (10, 110, 0, 1, mWords_add, 456, 52, 459, 457, 458), (10, 114, 0, 4, mNames_add, 460, 51, 463, 461, 462), (10, 117, 0, 2, mWords_isOf, 469, 52, 472, 470, 471), (10, 132, 0, 1, mRules_add, 485, 53, 488, 486, 487), (10, 136, 0, 2, mRules_addToken, 493, 53, 496, 494, 495), (10, 152, 0, 2, mSett_makeNear, 510, 49, 513, 511, 512), (10, 155, 1, 2, mHelp_countRuns, 518, 48, 520, 519, 0), (10, 159, 0, 2, mLine_become, 524, 54, 527, 525, 526), (10, 174, 0, 1, mRead_wordOfTyped, 542, 55, 545, 543, 544), (10, 177, 0, 0, mRead_update, 551, 55, 554, 552, 553), (10, 190, 0, 0, mProp_update, 594, 56, 597, 595, 596), (10, 192, 0, 0, mNear_update, 641, 58, 644, 642, 643), (10, 200, 0, 0, mHelp_countHints, 674, 48, 677, 676, 18), (10, 216, 0, 0, mHelp_mayFixUnasked, 695, 48, 698, 697, 19), (10, 220, 0, 1, mHelp_accept, 703, 48, 706, 705, 20), (10, 227, 0, 1, mRead_couldComeNext, 678, 55, 681, 679, 680), (10, 230, 0, 2, mHelp_takes, 741, 48, 744, 743, 22), (10, 233, 0, 3, mTable_nearestName, 751, 57, 609, 607, 608), (10, 237, 0, 3, mTable_fill, 752, 57, 613, 611, 612), (10, 253, 0, 2, mTable_cost, 873, 57, 621, 619, 620), (10, 256, 0, 1, mLog_countForward, 757, 59, 760, 758, 759), (10, 259, 0, 2, mLog_findForward, 765, 59, 768, 766, 767), (10, 273, 0, 3, mLog_forget, 773, 59, 776, 774, 775), (10, 277, 0, 1, mNames_countOf, 781, 51, 784, 782, 783), (10, 281, 1, 1, mHelp_letterOf, 521, 48, 523, 522, 0), (10, 284, 0, 1, mRead_verbWith, 699, 55, 702, 700, 701), (10, 288, 0, 4, mLog_add, 707, 59, 710, 708, 709), (10, 291, 0, 1, mNames_firstOf, 717, 51, 720, 718, 719), (10, 294, 0, 3, mLine_replace, 721, 54, 724, 722, 723), (10, 301, 0, 2, mRules_tokenAt, 745, 53, 584, 582, 583), (10, 304, 0, 2, mWords_isAs, 746, 52, 588, 586, 587), (11, 120, 1, 3, mModel_in, 1051, 60, 1053, 1052, 0), (11, 127, 1, 1, mModel_small, 1063, 60, 1065, 1064, 0), (11, 136, 0, 3, mModel_named, 1059, 60, 1062, 1061, 25), (11, 143, 0, 4, mModel_name, 1066, 60, 1069, 1068, 26), (11, 147, 0, 2, mModel_is, 1074, 60, 1077, 1076, 27), (11, 154, 1, 1, mModel_isLetter, 1109, 60, 1111, 1110, 0), (11, 164, 1, 2, mModel_runsOf, 1106, 60, 1108, 1107, 0), (11, 168, 0, 0, mModel_part, 1120, 60, 1123, 1122, 28), (11, 174, 0, 1, mModel_inScope, 1132, 60, 1135, 1134, 30), (11, 177, 0, 2, mModel_isAs, 1140, 60, 1143, 1142, 32), (11, 186, 0, 0, mModel_fitting, 1136, 60, 1139, 1138, 31), (11, 190, 0, 0, mModel_judge, 1128, 60, 1131, 1130, 29), (11, 193, 0, 2, mModel_least, 1161, 60, 1164, 1163, 36), (11, 198, 0, 2, mModel_change, 1165, 60, 1168, 1167, 37), (11, 204, 0, 3, mModel_reckon, 1156, 60, 1159, 1158, 35), (11, 214, 0, 3, mModel_nearest, 1152, 60, 1155, 1154, 34), (11, 217, 0, 1, mModel_wouldFit, 1169, 60, 1172, 1171, 38), (11, 220, 0, 0, mModel_propose, 1148, 60, 1151, 1150, 33), (11, 226, 0, 3, mModel_isLogged, 1185, 60, 1188, 1187, 41), (11, 229, 0, 3, mModel_log, 1181, 60, 1184, 1183, 40), (11, 232, 0, 1, mModel_becomes, 1177, 60, 1180, 1179, 39), (11, 245, 0, 1, mModel_pairs, 1209, 60, 1212, 1211, 45), (11, 251, 0, 2, mModel_mayCome, 1201, 60, 1204, 1203, 43), (11, 254, 0, 0, mModel_hints, 1197, 60, 1200, 1199, 42), (11, 257, 0, 0, mModel_compare, 1205, 60, 1208, 1207, 44), (11, 263, 0, 1, mModel_put, 1241, 60, 1244, 1243, 46), (12, 7, 0, 2, mHelp_cell, 866, 48, 869, 867, 868), (12, 21, 0, 2, mHelp_feed, 437, 48, 440, 438, 439), (12, 25, 0, 2, mModel_feed, 1047, 60, 1050, 1048, 1049), (12, 26, 0, 1, mHelp_word, 441, 48, 444, 442, 443), (12, 30, 0, 1, mModel_word, 1055, 60, 1058, 1056, 1057), (12, 31, 0, 2, mHelp_scope, 465, 48, 468, 466, 467), (12, 35, 0, 2, mModel_scope, 1070, 60, 1073, 1071, 1072), (12, 36, 0, 2, mHelp_classes, 473, 48, 476, 474, 475), (12, 39, 0, 2, mModel_classes, 1078, 60, 1081, 1079, 1080), (12, 40, 0, 2, mHelp_danger, 477, 48, 480, 478, 479), (12, 43, 0, 2, mModel_danger, 1082, 60, 1085, 1083, 1084), (12, 44, 0, 1, mHelp_rule, 481, 48, 484, 482, 483), (12, 47, 0, 1, mModel_rule, 1086, 60, 1089, 1087, 1088), (12, 48, 0, 2, mHelp_token, 489, 48, 492, 490, 491), (12, 51, 0, 2, mModel_token, 1090, 60, 1093, 1091, 1092), (12, 52, 0, 2, mHelp_setting, 497, 48, 500, 498, 499), (12, 55, 0, 2, mModel_setting, 1094, 60, 1097, 1095, 1096), (12, 56, 0, 2, mHelp_near, 506, 48, 509, 507, 508), (12, 59, 0, 2, mModel_near, 1098, 60, 1101, 1099, 1100), (12, 60, 0, 0, mHelp_line, 514, 48, 517, 515, 516), (12, 64, 0, 0, mModel_line, 1102, 60, 1105, 1103, 1104), (12, 65, 0, 1, mHelp_at, 534, 48, 537, 535, 536), (12, 68, 0, 1, mModel_at, 1112, 60, 1115, 1113, 1114), (12, 69, 0, 2, mHelp_typed, 538, 48, 541, 539, 540), (12, 72, 0, 2, mModel_typed, 1116, 60, 1119, 1117, 1118), (12, 73, 0, 0, mHelp_look, 547, 48, 550, 548, 549), (12, 76, 0, 0, mModel_look, 1124, 60, 1127, 1125, 1126), (12, 77, 0, 1, mHelp_told, 590, 48, 593, 591, 592), (12, 80, 0, 1, mModel_told, 1193, 60, 1196, 1194, 1195), (12, 81, 0, 2, mHelp_proposal, 687, 48, 690, 688, 689), (12, 84, 0, 2, mModel_proposal, 1144, 60, 1147, 1145, 1146), (12, 85, 0, 0, mHelp_fix, 691, 48, 694, 692, 693), (12, 88, 0, 0, mModel_fix, 1173, 60, 1176, 1174, 1175), (12, 89, 0, 1, mHelp_choose, 725, 48, 728, 726, 727), (12, 92, 0, 1, mModel_choose, 1189, 60, 1192, 1190, 1191), (12, 93, 0, 1, mHelp_missing, 729, 48, 732, 730, 731), (12, 96, 0, 1, mModel_missing, 1213, 60, 1216, 1214, 1215), (12, 97, 0, 1, mHelp_hint, 733, 48, 736, 734, 735), (12, 100, 0, 1, mModel_hint, 1217, 60, 1220, 1218, 1219), (12, 101, 0, 2, mHelp_verbs, 737, 48, 740, 738, 739), (12, 104, 0, 2, mModel_verbs, 1221, 60, 1224, 1222, 1223), (12, 105, 0, 2, mHelp_edits, 747, 48, 750, 748, 749), (12, 108, 0, 2, mModel_edits, 1225, 60, 1228, 1226, 1227), (12, 114, 0, 2, mModel_cell, 1229, 60, 1232, 1230, 1231), (12, 115, 0, 0, mModel_thrown, 874, 60, 877, 875, 876), (12, 118, 0, 0, mHelp_forward, 753, 48, 756, 754, 755), (12, 121, 0, 0, mModel_forward, 1233, 60, 1236, 1234, 1235), (12, 122, 0, 2, mHelp_pair, 761, 48, 764, 762, 763), (12, 125, 0, 2, mModel_pair, 1237, 60, 1240, 1238, 1239), (12, 126, 0, 1, mHelp_learn, 769, 48, 772, 770, 771), (12, 129, 0, 1, mModel_learn, 1245, 60, 1248, 1246, 1247), (12, 130, 0, 1, mHelp_count, 785, 48, 788, 786, 787), (12, 133, 0, 1, mModel_count, 1249, 60, 1252, 1250, 1251)]
def callAt (o i : Nat) : Option (Nat × Nat × MI) := (MT.find? (fun e => e.1 == o && e.2.1 == i)).map (fun e => (e.2.2.1, e.2.2.2.1, e.2.2.2.2.1))
def MT_good (e : Nat × Nat × Nat × Nat × MI × Nat × Nat × Nat × Nat × Nat) : Prop := match e with
  | (o, i, kd, n, q, p1, p2, p3, p4, p5) => (if kd = 2 then Cond.methodLinkNest (RN o) i (mName q) RX10 ∈ NWL else lw_tbl[p1]? = some (Cond.methodLink (RN o) i (mName q))) ∧ lw_tbl[p2]? = some (Cond.initialized (mName q).cls) ∧ lw_tbl[p3]? = some (Cond.code (mName q) (mCode q) (mMaxL q) (mRet q)) ∧ (mName q).cls = RN (mOwn q) ∧ (mName q).cls ≠ "java/lang/invoke/MethodHandle" ∧ (mName q).cls ≠ "java/lang/invoke/VarHandle" ∧ (parseMethodDescriptor (mName q).desc).map (fun d => d.parameters.length) = some n ∧ (if kd = 0 then lw_tbl[p4]? = some (Cond.instanceMethod (mName q)) ∧ lw_tbl[p5]? = some (Cond.selects (RN (mOwn q)) (mName q) (mName q)) else lw_tbl[p4]? = some (Cond.static (mName q)))
theorem mt_0 : MT_good (0, 40, 0, 0, mLine_split, 529, 54, 532, 531, 1) := by unfold MT_good; decide +kernel
theorem mt_1 : MT_good (0, 47, 2, 1, mHelp_letterOf, 533, 48, 523, 522, 0) := by unfold MT_good; decide +kernel
theorem mt_2 : MT_good (1, 28, 2, 5, mHelp_sameLetters, 715, 48, 455, 454, 0) := by unfold MT_good; decide +kernel
theorem mt_3 : MT_good (1, 32, 0, 4, mLog_isOfTyped, 711, 59, 714, 713, 21) := by unfold MT_good; decide +kernel
theorem mt_4 : MT_good (1, 42, 0, 2, mLog_move, 777, 59, 780, 779, 23) := by unfold MT_good; decide +kernel
theorem mt_5 : MT_good (2, 25, 2, 5, mHelp_sameLetters, 453, 48, 455, 454, 0) := by unfold MT_good; decide +kernel
theorem mt_6 : MT_good (3, 37, 0, 0, mNear_findRule, 645, 58, 648, 647, 12) := by unfold MT_good; decide +kernel
theorem mt_7 : MT_good (3, 40, 0, 1, mNear_countPairs, 649, 58, 652, 651, 13) := by unfold MT_good; decide +kernel
theorem mt_8 : MT_good (3, 47, 0, 2, mNear_pairsFrom, 653, 58, 656, 655, 14) := by unfold MT_good; decide +kernel
theorem mt_9 : MT_good (3, 51, 0, 0, mNear_collectMissing, 666, 58, 669, 668, 16) := by unfold MT_good; decide +kernel
theorem mt_10 : MT_good (3, 74, 0, 2, mRules_tokenAt, 664, 53, 584, 582, 583) := by unfold MT_good; decide +kernel
theorem mt_11 : MT_good (3, 77, 0, 2, mWords_isAs, 665, 52, 588, 586, 587) := by unfold MT_good; decide +kernel
theorem mt_12 : MT_good (3, 88, 0, 3, mNear_isPair, 660, 58, 663, 662, 15) := by unfold MT_good; decide +kernel
theorem mt_13 : MT_good (3, 92, 0, 3, mNear_findPartner, 670, 58, 673, 672, 17) := by unfold MT_good; decide +kernel
theorem mt_14 : MT_good (4, 57, 0, 1, mWords_isSeen, 598, 52, 601, 599, 600) := by unfold MT_good; decide +kernel
theorem mt_15 : MT_good (4, 61, 0, 1, mProp_consider, 602, 56, 605, 604, 8) := by unfold MT_good; decide +kernel
theorem mt_16 : MT_good (4, 72, 0, 3, mTable_nearestName, 606, 57, 609, 607, 608) := by unfold MT_good; decide +kernel
theorem mt_17 : MT_good (4, 91, 0, 1, mRead_wouldFit, 629, 55, 632, 630, 631) := by unfold MT_good; decide +kernel
theorem mt_18 : MT_good (4, 94, 0, 3, mProp_insert, 633, 56, 636, 635, 10) := by unfold MT_good; decide +kernel
theorem mt_19 : MT_good (4, 98, 0, 3, mProp_isBefore, 637, 56, 640, 639, 11) := by unfold MT_good; decide +kernel
theorem mt_20 : MT_good (5, 50, 0, 0, mRead_collectMeant, 555, 55, 558, 557, 2) := by unfold MT_good; decide +kernel
theorem mt_21 : MT_good (5, 53, 0, 0, mRead_judge, 561, 55, 564, 563, 3) := by unfold MT_good; decide +kernel
theorem mt_22 : MT_good (5, 68, 0, 3, mNames_find, 546, 51, 452, 450, 451) := by unfold MT_good; decide +kernel
theorem mt_23 : MT_good (5, 80, 0, 1, mRead_wordOfTyped, 559, 55, 545, 543, 544) := by unfold MT_good; decide +kernel
theorem mt_24 : MT_good (5, 84, 0, 2, mWords_isOf, 560, 52, 472, 470, 471) := by unfold MT_good; decide +kernel
theorem mt_25 : MT_good (5, 90, 0, 0, mRead_findUnknown, 565, 55, 568, 567, 4) := by unfold MT_good; decide +kernel
theorem mt_26 : MT_good (5, 93, 0, 0, mRead_findHidden, 569, 55, 572, 571, 5) := by unfold MT_good; decide +kernel
theorem mt_27 : MT_good (5, 96, 0, 0, mRead_findFitting, 573, 55, 576, 575, 6) := by unfold MT_good; decide +kernel
theorem mt_28 : MT_good (5, 107, 0, 1, mRead_beginsAs, 577, 55, 580, 579, 7) := by unfold MT_good; decide +kernel
theorem mt_29 : MT_good (5, 114, 0, 2, mRules_tokenAt, 581, 53, 584, 582, 583) := by unfold MT_good; decide +kernel
theorem mt_30 : MT_good (5, 118, 0, 2, mWords_isAs, 585, 52, 588, 586, 587) := by unfold MT_good; decide +kernel
theorem mt_31 : MT_good (5, 121, 0, 1, mWords_isSeen, 682, 52, 601, 599, 600) := by unfold MT_good; decide +kernel
theorem mt_32 : MT_good (5, 127, 0, 1, mRules_hasVerb, 683, 53, 686, 684, 685) := by unfold MT_good; decide +kernel
theorem mt_33 : MT_good (8, 41, 0, 3, mTable_fill, 610, 57, 613, 611, 612) := by unfold MT_good; decide +kernel
theorem mt_34 : MT_good (8, 62, 0, 5, mTable_leastCost, 614, 57, 617, 616, 9) := by unfold MT_good; decide +kernel
theorem mt_35 : MT_good (8, 66, 0, 2, mTable_cost, 618, 57, 621, 619, 620) := by unfold MT_good; decide +kernel
theorem mt_36 : MT_good (8, 71, 0, 2, mSett_costOfChange, 622, 49, 625, 623, 624) := by unfold MT_good; decide +kernel
theorem mt_37 : MT_good (9, 29, 0, 2, mWords_isOf, 589, 52, 472, 470, 471) := by unfold MT_good; decide +kernel
theorem mt_38 : MT_good (10, 98, 0, 1, mHelp_spell, 445, 48, 448, 447, 0) := by unfold MT_good; decide +kernel
theorem mt_39 : MT_good (10, 102, 0, 3, mNames_find, 449, 51, 452, 450, 451) := by unfold MT_good; decide +kernel
theorem mt_40 : MT_good (10, 110, 0, 1, mWords_add, 456, 52, 459, 457, 458) := by unfold MT_good; decide +kernel
theorem mt_41 : MT_good (10, 114, 0, 4, mNames_add, 460, 51, 463, 461, 462) := by unfold MT_good; decide +kernel
theorem mt_42 : MT_good (10, 117, 0, 2, mWords_isOf, 469, 52, 472, 470, 471) := by unfold MT_good; decide +kernel
theorem mt_43 : MT_good (10, 132, 0, 1, mRules_add, 485, 53, 488, 486, 487) := by unfold MT_good; decide +kernel
theorem mt_44 : MT_good (10, 136, 0, 2, mRules_addToken, 493, 53, 496, 494, 495) := by unfold MT_good; decide +kernel
theorem mt_45 : MT_good (10, 152, 0, 2, mSett_makeNear, 510, 49, 513, 511, 512) := by unfold MT_good; decide +kernel
theorem mt_46 : MT_good (10, 155, 1, 2, mHelp_countRuns, 518, 48, 520, 519, 0) := by unfold MT_good; decide +kernel
theorem mt_47 : MT_good (10, 159, 0, 2, mLine_become, 524, 54, 527, 525, 526) := by unfold MT_good; decide +kernel
theorem mt_48 : MT_good (10, 174, 0, 1, mRead_wordOfTyped, 542, 55, 545, 543, 544) := by unfold MT_good; decide +kernel
theorem mt_49 : MT_good (10, 177, 0, 0, mRead_update, 551, 55, 554, 552, 553) := by unfold MT_good; decide +kernel
theorem mt_50 : MT_good (10, 190, 0, 0, mProp_update, 594, 56, 597, 595, 596) := by unfold MT_good; decide +kernel
theorem mt_51 : MT_good (10, 192, 0, 0, mNear_update, 641, 58, 644, 642, 643) := by unfold MT_good; decide +kernel
theorem mt_52 : MT_good (10, 200, 0, 0, mHelp_countHints, 674, 48, 677, 676, 18) := by unfold MT_good; decide +kernel
theorem mt_53 : MT_good (10, 216, 0, 0, mHelp_mayFixUnasked, 695, 48, 698, 697, 19) := by unfold MT_good; decide +kernel
theorem mt_54 : MT_good (10, 220, 0, 1, mHelp_accept, 703, 48, 706, 705, 20) := by unfold MT_good; decide +kernel
theorem mt_55 : MT_good (10, 227, 0, 1, mRead_couldComeNext, 678, 55, 681, 679, 680) := by unfold MT_good; decide +kernel
theorem mt_56 : MT_good (10, 230, 0, 2, mHelp_takes, 741, 48, 744, 743, 22) := by unfold MT_good; decide +kernel
theorem mt_57 : MT_good (10, 233, 0, 3, mTable_nearestName, 751, 57, 609, 607, 608) := by unfold MT_good; decide +kernel
theorem mt_58 : MT_good (10, 237, 0, 3, mTable_fill, 752, 57, 613, 611, 612) := by unfold MT_good; decide +kernel
theorem mt_59 : MT_good (10, 253, 0, 2, mTable_cost, 873, 57, 621, 619, 620) := by unfold MT_good; decide +kernel
theorem mt_60 : MT_good (10, 256, 0, 1, mLog_countForward, 757, 59, 760, 758, 759) := by unfold MT_good; decide +kernel
theorem mt_61 : MT_good (10, 259, 0, 2, mLog_findForward, 765, 59, 768, 766, 767) := by unfold MT_good; decide +kernel
theorem mt_62 : MT_good (10, 273, 0, 3, mLog_forget, 773, 59, 776, 774, 775) := by unfold MT_good; decide +kernel
theorem mt_63 : MT_good (10, 277, 0, 1, mNames_countOf, 781, 51, 784, 782, 783) := by unfold MT_good; decide +kernel
theorem mt_64 : MT_good (10, 281, 1, 1, mHelp_letterOf, 521, 48, 523, 522, 0) := by unfold MT_good; decide +kernel
theorem mt_65 : MT_good (10, 284, 0, 1, mRead_verbWith, 699, 55, 702, 700, 701) := by unfold MT_good; decide +kernel
theorem mt_66 : MT_good (10, 288, 0, 4, mLog_add, 707, 59, 710, 708, 709) := by unfold MT_good; decide +kernel
theorem mt_67 : MT_good (10, 291, 0, 1, mNames_firstOf, 717, 51, 720, 718, 719) := by unfold MT_good; decide +kernel
theorem mt_68 : MT_good (10, 294, 0, 3, mLine_replace, 721, 54, 724, 722, 723) := by unfold MT_good; decide +kernel
theorem mt_69 : MT_good (10, 301, 0, 2, mRules_tokenAt, 745, 53, 584, 582, 583) := by unfold MT_good; decide +kernel
theorem mt_70 : MT_good (10, 304, 0, 2, mWords_isAs, 746, 52, 588, 586, 587) := by unfold MT_good; decide +kernel
theorem mt_71 : MT_good (11, 120, 1, 3, mModel_in, 1051, 60, 1053, 1052, 0) := by unfold MT_good; decide +kernel
theorem mt_72 : MT_good (11, 127, 1, 1, mModel_small, 1063, 60, 1065, 1064, 0) := by unfold MT_good; decide +kernel
theorem mt_73 : MT_good (11, 136, 0, 3, mModel_named, 1059, 60, 1062, 1061, 25) := by unfold MT_good; decide +kernel
theorem mt_74 : MT_good (11, 143, 0, 4, mModel_name, 1066, 60, 1069, 1068, 26) := by unfold MT_good; decide +kernel
theorem mt_75 : MT_good (11, 147, 0, 2, mModel_is, 1074, 60, 1077, 1076, 27) := by unfold MT_good; decide +kernel
theorem mt_76 : MT_good (11, 154, 1, 1, mModel_isLetter, 1109, 60, 1111, 1110, 0) := by unfold MT_good; decide +kernel
theorem mt_77 : MT_good (11, 164, 1, 2, mModel_runsOf, 1106, 60, 1108, 1107, 0) := by unfold MT_good; decide +kernel
theorem mt_78 : MT_good (11, 168, 0, 0, mModel_part, 1120, 60, 1123, 1122, 28) := by unfold MT_good; decide +kernel
theorem mt_79 : MT_good (11, 174, 0, 1, mModel_inScope, 1132, 60, 1135, 1134, 30) := by unfold MT_good; decide +kernel
theorem mt_80 : MT_good (11, 177, 0, 2, mModel_isAs, 1140, 60, 1143, 1142, 32) := by unfold MT_good; decide +kernel
theorem mt_81 : MT_good (11, 186, 0, 0, mModel_fitting, 1136, 60, 1139, 1138, 31) := by unfold MT_good; decide +kernel
theorem mt_82 : MT_good (11, 190, 0, 0, mModel_judge, 1128, 60, 1131, 1130, 29) := by unfold MT_good; decide +kernel
theorem mt_83 : MT_good (11, 193, 0, 2, mModel_least, 1161, 60, 1164, 1163, 36) := by unfold MT_good; decide +kernel
theorem mt_84 : MT_good (11, 198, 0, 2, mModel_change, 1165, 60, 1168, 1167, 37) := by unfold MT_good; decide +kernel
theorem mt_85 : MT_good (11, 204, 0, 3, mModel_reckon, 1156, 60, 1159, 1158, 35) := by unfold MT_good; decide +kernel
theorem mt_86 : MT_good (11, 214, 0, 3, mModel_nearest, 1152, 60, 1155, 1154, 34) := by unfold MT_good; decide +kernel
theorem mt_87 : MT_good (11, 217, 0, 1, mModel_wouldFit, 1169, 60, 1172, 1171, 38) := by unfold MT_good; decide +kernel
theorem mt_88 : MT_good (11, 220, 0, 0, mModel_propose, 1148, 60, 1151, 1150, 33) := by unfold MT_good; decide +kernel
theorem mt_89 : MT_good (11, 226, 0, 3, mModel_isLogged, 1185, 60, 1188, 1187, 41) := by unfold MT_good; decide +kernel
theorem mt_90 : MT_good (11, 229, 0, 3, mModel_log, 1181, 60, 1184, 1183, 40) := by unfold MT_good; decide +kernel
theorem mt_91 : MT_good (11, 232, 0, 1, mModel_becomes, 1177, 60, 1180, 1179, 39) := by unfold MT_good; decide +kernel
theorem mt_92 : MT_good (11, 245, 0, 1, mModel_pairs, 1209, 60, 1212, 1211, 45) := by unfold MT_good; decide +kernel
theorem mt_93 : MT_good (11, 251, 0, 2, mModel_mayCome, 1201, 60, 1204, 1203, 43) := by unfold MT_good; decide +kernel
theorem mt_94 : MT_good (11, 254, 0, 0, mModel_hints, 1197, 60, 1200, 1199, 42) := by unfold MT_good; decide +kernel
theorem mt_95 : MT_good (11, 257, 0, 0, mModel_compare, 1205, 60, 1208, 1207, 44) := by unfold MT_good; decide +kernel
theorem mt_96 : MT_good (11, 263, 0, 1, mModel_put, 1241, 60, 1244, 1243, 46) := by unfold MT_good; decide +kernel
theorem mt_97 : MT_good (12, 7, 0, 2, mHelp_cell, 866, 48, 869, 867, 868) := by unfold MT_good; decide +kernel
theorem mt_98 : MT_good (12, 21, 0, 2, mHelp_feed, 437, 48, 440, 438, 439) := by unfold MT_good; decide +kernel
theorem mt_99 : MT_good (12, 25, 0, 2, mModel_feed, 1047, 60, 1050, 1048, 1049) := by unfold MT_good; decide +kernel
theorem mt_100 : MT_good (12, 26, 0, 1, mHelp_word, 441, 48, 444, 442, 443) := by unfold MT_good; decide +kernel
theorem mt_101 : MT_good (12, 30, 0, 1, mModel_word, 1055, 60, 1058, 1056, 1057) := by unfold MT_good; decide +kernel
theorem mt_102 : MT_good (12, 31, 0, 2, mHelp_scope, 465, 48, 468, 466, 467) := by unfold MT_good; decide +kernel
theorem mt_103 : MT_good (12, 35, 0, 2, mModel_scope, 1070, 60, 1073, 1071, 1072) := by unfold MT_good; decide +kernel
theorem mt_104 : MT_good (12, 36, 0, 2, mHelp_classes, 473, 48, 476, 474, 475) := by unfold MT_good; decide +kernel
theorem mt_105 : MT_good (12, 39, 0, 2, mModel_classes, 1078, 60, 1081, 1079, 1080) := by unfold MT_good; decide +kernel
theorem mt_106 : MT_good (12, 40, 0, 2, mHelp_danger, 477, 48, 480, 478, 479) := by unfold MT_good; decide +kernel
theorem mt_107 : MT_good (12, 43, 0, 2, mModel_danger, 1082, 60, 1085, 1083, 1084) := by unfold MT_good; decide +kernel
theorem mt_108 : MT_good (12, 44, 0, 1, mHelp_rule, 481, 48, 484, 482, 483) := by unfold MT_good; decide +kernel
theorem mt_109 : MT_good (12, 47, 0, 1, mModel_rule, 1086, 60, 1089, 1087, 1088) := by unfold MT_good; decide +kernel
theorem mt_110 : MT_good (12, 48, 0, 2, mHelp_token, 489, 48, 492, 490, 491) := by unfold MT_good; decide +kernel
theorem mt_111 : MT_good (12, 51, 0, 2, mModel_token, 1090, 60, 1093, 1091, 1092) := by unfold MT_good; decide +kernel
theorem mt_112 : MT_good (12, 52, 0, 2, mHelp_setting, 497, 48, 500, 498, 499) := by unfold MT_good; decide +kernel
theorem mt_113 : MT_good (12, 55, 0, 2, mModel_setting, 1094, 60, 1097, 1095, 1096) := by unfold MT_good; decide +kernel
theorem mt_114 : MT_good (12, 56, 0, 2, mHelp_near, 506, 48, 509, 507, 508) := by unfold MT_good; decide +kernel
theorem mt_115 : MT_good (12, 59, 0, 2, mModel_near, 1098, 60, 1101, 1099, 1100) := by unfold MT_good; decide +kernel
theorem mt_116 : MT_good (12, 60, 0, 0, mHelp_line, 514, 48, 517, 515, 516) := by unfold MT_good; decide +kernel
theorem mt_117 : MT_good (12, 64, 0, 0, mModel_line, 1102, 60, 1105, 1103, 1104) := by unfold MT_good; decide +kernel
theorem mt_118 : MT_good (12, 65, 0, 1, mHelp_at, 534, 48, 537, 535, 536) := by unfold MT_good; decide +kernel
theorem mt_119 : MT_good (12, 68, 0, 1, mModel_at, 1112, 60, 1115, 1113, 1114) := by unfold MT_good; decide +kernel
theorem mt_120 : MT_good (12, 69, 0, 2, mHelp_typed, 538, 48, 541, 539, 540) := by unfold MT_good; decide +kernel
theorem mt_121 : MT_good (12, 72, 0, 2, mModel_typed, 1116, 60, 1119, 1117, 1118) := by unfold MT_good; decide +kernel
theorem mt_122 : MT_good (12, 73, 0, 0, mHelp_look, 547, 48, 550, 548, 549) := by unfold MT_good; decide +kernel
theorem mt_123 : MT_good (12, 76, 0, 0, mModel_look, 1124, 60, 1127, 1125, 1126) := by unfold MT_good; decide +kernel
theorem mt_124 : MT_good (12, 77, 0, 1, mHelp_told, 590, 48, 593, 591, 592) := by unfold MT_good; decide +kernel
theorem mt_125 : MT_good (12, 80, 0, 1, mModel_told, 1193, 60, 1196, 1194, 1195) := by unfold MT_good; decide +kernel
theorem mt_126 : MT_good (12, 81, 0, 2, mHelp_proposal, 687, 48, 690, 688, 689) := by unfold MT_good; decide +kernel
theorem mt_127 : MT_good (12, 84, 0, 2, mModel_proposal, 1144, 60, 1147, 1145, 1146) := by unfold MT_good; decide +kernel
theorem mt_128 : MT_good (12, 85, 0, 0, mHelp_fix, 691, 48, 694, 692, 693) := by unfold MT_good; decide +kernel
theorem mt_129 : MT_good (12, 88, 0, 0, mModel_fix, 1173, 60, 1176, 1174, 1175) := by unfold MT_good; decide +kernel
theorem mt_130 : MT_good (12, 89, 0, 1, mHelp_choose, 725, 48, 728, 726, 727) := by unfold MT_good; decide +kernel
theorem mt_131 : MT_good (12, 92, 0, 1, mModel_choose, 1189, 60, 1192, 1190, 1191) := by unfold MT_good; decide +kernel
theorem mt_132 : MT_good (12, 93, 0, 1, mHelp_missing, 729, 48, 732, 730, 731) := by unfold MT_good; decide +kernel
theorem mt_133 : MT_good (12, 96, 0, 1, mModel_missing, 1213, 60, 1216, 1214, 1215) := by unfold MT_good; decide +kernel
theorem mt_134 : MT_good (12, 97, 0, 1, mHelp_hint, 733, 48, 736, 734, 735) := by unfold MT_good; decide +kernel
theorem mt_135 : MT_good (12, 100, 0, 1, mModel_hint, 1217, 60, 1220, 1218, 1219) := by unfold MT_good; decide +kernel
theorem mt_136 : MT_good (12, 101, 0, 2, mHelp_verbs, 737, 48, 740, 738, 739) := by unfold MT_good; decide +kernel
theorem mt_137 : MT_good (12, 104, 0, 2, mModel_verbs, 1221, 60, 1224, 1222, 1223) := by unfold MT_good; decide +kernel
theorem mt_138 : MT_good (12, 105, 0, 2, mHelp_edits, 747, 48, 750, 748, 749) := by unfold MT_good; decide +kernel
theorem mt_139 : MT_good (12, 108, 0, 2, mModel_edits, 1225, 60, 1228, 1226, 1227) := by unfold MT_good; decide +kernel
theorem mt_140 : MT_good (12, 114, 0, 2, mModel_cell, 1229, 60, 1232, 1230, 1231) := by unfold MT_good; decide +kernel
theorem mt_141 : MT_good (12, 115, 0, 0, mModel_thrown, 874, 60, 877, 875, 876) := by unfold MT_good; decide +kernel
theorem mt_142 : MT_good (12, 118, 0, 0, mHelp_forward, 753, 48, 756, 754, 755) := by unfold MT_good; decide +kernel
theorem mt_143 : MT_good (12, 121, 0, 0, mModel_forward, 1233, 60, 1236, 1234, 1235) := by unfold MT_good; decide +kernel
theorem mt_144 : MT_good (12, 122, 0, 2, mHelp_pair, 761, 48, 764, 762, 763) := by unfold MT_good; decide +kernel
theorem mt_145 : MT_good (12, 125, 0, 2, mModel_pair, 1237, 60, 1240, 1238, 1239) := by unfold MT_good; decide +kernel
theorem mt_146 : MT_good (12, 126, 0, 1, mHelp_learn, 769, 48, 772, 770, 771) := by unfold MT_good; decide +kernel
theorem mt_147 : MT_good (12, 129, 0, 1, mModel_learn, 1245, 60, 1248, 1246, 1247) := by unfold MT_good; decide +kernel
theorem mt_148 : MT_good (12, 130, 0, 1, mHelp_count, 785, 48, 788, 786, 787) := by unfold MT_good; decide +kernel
theorem mt_149 : MT_good (12, 133, 0, 1, mModel_count, 1249, 60, 1252, 1250, 1251) := by unfold MT_good; decide +kernel
theorem MT_ok : ∀ e ∈ MT, MT_good e := List.forall_mem_cons.mpr ⟨mt_0, List.forall_mem_cons.mpr ⟨mt_1, List.forall_mem_cons.mpr ⟨mt_2, List.forall_mem_cons.mpr ⟨mt_3, List.forall_mem_cons.mpr ⟨mt_4, List.forall_mem_cons.mpr ⟨mt_5, List.forall_mem_cons.mpr ⟨mt_6, List.forall_mem_cons.mpr ⟨mt_7, List.forall_mem_cons.mpr ⟨mt_8, List.forall_mem_cons.mpr ⟨mt_9, List.forall_mem_cons.mpr ⟨mt_10, List.forall_mem_cons.mpr ⟨mt_11, List.forall_mem_cons.mpr ⟨mt_12, List.forall_mem_cons.mpr ⟨mt_13, List.forall_mem_cons.mpr ⟨mt_14, List.forall_mem_cons.mpr ⟨mt_15, List.forall_mem_cons.mpr ⟨mt_16, List.forall_mem_cons.mpr ⟨mt_17, List.forall_mem_cons.mpr ⟨mt_18, List.forall_mem_cons.mpr ⟨mt_19, List.forall_mem_cons.mpr ⟨mt_20, List.forall_mem_cons.mpr ⟨mt_21, List.forall_mem_cons.mpr ⟨mt_22, List.forall_mem_cons.mpr ⟨mt_23, List.forall_mem_cons.mpr ⟨mt_24, List.forall_mem_cons.mpr ⟨mt_25, List.forall_mem_cons.mpr ⟨mt_26, List.forall_mem_cons.mpr ⟨mt_27, List.forall_mem_cons.mpr ⟨mt_28, List.forall_mem_cons.mpr ⟨mt_29, List.forall_mem_cons.mpr ⟨mt_30, List.forall_mem_cons.mpr ⟨mt_31, List.forall_mem_cons.mpr ⟨mt_32, List.forall_mem_cons.mpr ⟨mt_33, List.forall_mem_cons.mpr ⟨mt_34, List.forall_mem_cons.mpr ⟨mt_35, List.forall_mem_cons.mpr ⟨mt_36, List.forall_mem_cons.mpr ⟨mt_37, List.forall_mem_cons.mpr ⟨mt_38, List.forall_mem_cons.mpr ⟨mt_39, List.forall_mem_cons.mpr ⟨mt_40, List.forall_mem_cons.mpr ⟨mt_41, List.forall_mem_cons.mpr ⟨mt_42, List.forall_mem_cons.mpr ⟨mt_43, List.forall_mem_cons.mpr ⟨mt_44, List.forall_mem_cons.mpr ⟨mt_45, List.forall_mem_cons.mpr ⟨mt_46, List.forall_mem_cons.mpr ⟨mt_47, List.forall_mem_cons.mpr ⟨mt_48, List.forall_mem_cons.mpr ⟨mt_49, List.forall_mem_cons.mpr ⟨mt_50, List.forall_mem_cons.mpr ⟨mt_51, List.forall_mem_cons.mpr ⟨mt_52, List.forall_mem_cons.mpr ⟨mt_53, List.forall_mem_cons.mpr ⟨mt_54, List.forall_mem_cons.mpr ⟨mt_55, List.forall_mem_cons.mpr ⟨mt_56, List.forall_mem_cons.mpr ⟨mt_57, List.forall_mem_cons.mpr ⟨mt_58, List.forall_mem_cons.mpr ⟨mt_59, List.forall_mem_cons.mpr ⟨mt_60, List.forall_mem_cons.mpr ⟨mt_61, List.forall_mem_cons.mpr ⟨mt_62, List.forall_mem_cons.mpr ⟨mt_63, List.forall_mem_cons.mpr ⟨mt_64, List.forall_mem_cons.mpr ⟨mt_65, List.forall_mem_cons.mpr ⟨mt_66, List.forall_mem_cons.mpr ⟨mt_67, List.forall_mem_cons.mpr ⟨mt_68, List.forall_mem_cons.mpr ⟨mt_69, List.forall_mem_cons.mpr ⟨mt_70, List.forall_mem_cons.mpr ⟨mt_71, List.forall_mem_cons.mpr ⟨mt_72, List.forall_mem_cons.mpr ⟨mt_73, List.forall_mem_cons.mpr ⟨mt_74, List.forall_mem_cons.mpr ⟨mt_75, List.forall_mem_cons.mpr ⟨mt_76, List.forall_mem_cons.mpr ⟨mt_77, List.forall_mem_cons.mpr ⟨mt_78, List.forall_mem_cons.mpr ⟨mt_79, List.forall_mem_cons.mpr ⟨mt_80, List.forall_mem_cons.mpr ⟨mt_81, List.forall_mem_cons.mpr ⟨mt_82, List.forall_mem_cons.mpr ⟨mt_83, List.forall_mem_cons.mpr ⟨mt_84, List.forall_mem_cons.mpr ⟨mt_85, List.forall_mem_cons.mpr ⟨mt_86, List.forall_mem_cons.mpr ⟨mt_87, List.forall_mem_cons.mpr ⟨mt_88, List.forall_mem_cons.mpr ⟨mt_89, List.forall_mem_cons.mpr ⟨mt_90, List.forall_mem_cons.mpr ⟨mt_91, List.forall_mem_cons.mpr ⟨mt_92, List.forall_mem_cons.mpr ⟨mt_93, List.forall_mem_cons.mpr ⟨mt_94, List.forall_mem_cons.mpr ⟨mt_95, List.forall_mem_cons.mpr ⟨mt_96, List.forall_mem_cons.mpr ⟨mt_97, List.forall_mem_cons.mpr ⟨mt_98, List.forall_mem_cons.mpr ⟨mt_99, List.forall_mem_cons.mpr ⟨mt_100, List.forall_mem_cons.mpr ⟨mt_101, List.forall_mem_cons.mpr ⟨mt_102, List.forall_mem_cons.mpr ⟨mt_103, List.forall_mem_cons.mpr ⟨mt_104, List.forall_mem_cons.mpr ⟨mt_105, List.forall_mem_cons.mpr ⟨mt_106, List.forall_mem_cons.mpr ⟨mt_107, List.forall_mem_cons.mpr ⟨mt_108, List.forall_mem_cons.mpr ⟨mt_109, List.forall_mem_cons.mpr ⟨mt_110, List.forall_mem_cons.mpr ⟨mt_111, List.forall_mem_cons.mpr ⟨mt_112, List.forall_mem_cons.mpr ⟨mt_113, List.forall_mem_cons.mpr ⟨mt_114, List.forall_mem_cons.mpr ⟨mt_115, List.forall_mem_cons.mpr ⟨mt_116, List.forall_mem_cons.mpr ⟨mt_117, List.forall_mem_cons.mpr ⟨mt_118, List.forall_mem_cons.mpr ⟨mt_119, List.forall_mem_cons.mpr ⟨mt_120, List.forall_mem_cons.mpr ⟨mt_121, List.forall_mem_cons.mpr ⟨mt_122, List.forall_mem_cons.mpr ⟨mt_123, List.forall_mem_cons.mpr ⟨mt_124, List.forall_mem_cons.mpr ⟨mt_125, List.forall_mem_cons.mpr ⟨mt_126, List.forall_mem_cons.mpr ⟨mt_127, List.forall_mem_cons.mpr ⟨mt_128, List.forall_mem_cons.mpr ⟨mt_129, List.forall_mem_cons.mpr ⟨mt_130, List.forall_mem_cons.mpr ⟨mt_131, List.forall_mem_cons.mpr ⟨mt_132, List.forall_mem_cons.mpr ⟨mt_133, List.forall_mem_cons.mpr ⟨mt_134, List.forall_mem_cons.mpr ⟨mt_135, List.forall_mem_cons.mpr ⟨mt_136, List.forall_mem_cons.mpr ⟨mt_137, List.forall_mem_cons.mpr ⟨mt_138, List.forall_mem_cons.mpr ⟨mt_139, List.forall_mem_cons.mpr ⟨mt_140, List.forall_mem_cons.mpr ⟨mt_141, List.forall_mem_cons.mpr ⟨mt_142, List.forall_mem_cons.mpr ⟨mt_143, List.forall_mem_cons.mpr ⟨mt_144, List.forall_mem_cons.mpr ⟨mt_145, List.forall_mem_cons.mpr ⟨mt_146, List.forall_mem_cons.mpr ⟨mt_147, List.forall_mem_cons.mpr ⟨mt_148, List.forall_mem_cons.mpr ⟨mt_149, fun _ h => absurd h List.not_mem_nil⟩⟩⟩⟩⟩⟩⟩⟩⟩⟩⟩⟩⟩⟩⟩⟩⟩⟩⟩⟩⟩⟩⟩⟩⟩⟩⟩⟩⟩⟩⟩⟩⟩⟩⟩⟩⟩⟩⟩⟩⟩⟩⟩⟩⟩⟩⟩⟩⟩⟩⟩⟩⟩⟩⟩⟩⟩⟩⟩⟩⟩⟩⟩⟩⟩⟩⟩⟩⟩⟩⟩⟩⟩⟩⟩⟩⟩⟩⟩⟩⟩⟩⟩⟩⟩⟩⟩⟩⟩⟩⟩⟩⟩⟩⟩⟩⟩⟩⟩⟩⟩⟩⟩⟩⟩⟩⟩⟩⟩⟩⟩⟩⟩⟩⟩⟩⟩⟩⟩⟩⟩⟩⟩⟩⟩⟩⟩⟩⟩⟩⟩⟩⟩⟩⟩⟩⟩⟩⟩⟩⟩⟩⟩⟩⟩⟩⟩⟩⟩⟩
theorem callAt_ok {o i kd n : Nat} {q : MI} (hf : callAt o i = some (kd, n, q)) : Cond.initialized (mName q).cls ∈ TBL ∧ Cond.code (mName q) (mCode q) (mMaxL q) (mRet q) ∈ TBL ∧ (mName q).cls = RN (mOwn q) ∧ (mName q).cls ≠ "java/lang/invoke/MethodHandle" ∧ (mName q).cls ≠ "java/lang/invoke/VarHandle" ∧ (parseMethodDescriptor (mName q).desc).map (fun d => d.parameters.length) = some n ∧ (kd = 2 → Cond.methodLinkNest (RN o) i (mName q) RX10 ∈ NWL) ∧ (kd ≠ 2 → Cond.methodLink (RN o) i (mName q) ∈ TBL) ∧ (kd = 0 → Cond.instanceMethod (mName q) ∈ TBL ∧ Cond.selects (RN (mOwn q)) (mName q) (mName q) ∈ TBL) ∧ (kd ≠ 0 → Cond.static (mName q) ∈ TBL) := by
  unfold callAt at hf
  obtain ⟨e, he, e2⟩ := Option.map_eq_some_iff.mp hf
  have hm := MT_ok e (List.mem_of_find?_eq_some he)
  have hp := List.find?_some he
  simp only [Bool.and_eq_true, beq_iff_eq] at hp
  obtain ⟨a, b, c, d, f, p1, p2, p3, p4, p5⟩ := e
  obtain ⟨rfl, rfl⟩ := hp
  cases e2
  obtain ⟨h1, h2, h3, h4, h5, h6, h7, h8⟩ := hm
  refine ⟨mem_TBL (List.mem_of_getElem? h2) rfl, mem_TBL (List.mem_of_getElem? h3) rfl, h4, h5, h6, h7, fun hb => ?_, fun hb => ?_, fun hb => ?_, fun hb => ?_⟩
  · simp only at hb; rw [if_pos hb] at h1; exact h1
  · simp only at hb; rw [if_neg hb] at h1; exact mem_TBL (List.mem_of_getElem? h1) rfl
  · simp only at hb; rw [if_pos hb] at h8; exact ⟨mem_TBL (List.mem_of_getElem? h8.1) rfl, mem_TBL (List.mem_of_getElem? h8.2) rfl⟩
  · simp only at hb; rw [if_neg hb] at h8; exact mem_TBL (List.mem_of_getElem? h8) rfl
theorem ca_0_40 : callAt 0 40 = some (0, 0, mLine_split) := rfl
theorem ca_0_47 : callAt 0 47 = some (2, 1, mHelp_letterOf) := rfl
theorem ca_1_28 : callAt 1 28 = some (2, 5, mHelp_sameLetters) := rfl
theorem ca_1_32 : callAt 1 32 = some (0, 4, mLog_isOfTyped) := rfl
theorem ca_1_42 : callAt 1 42 = some (0, 2, mLog_move) := rfl
theorem ca_2_25 : callAt 2 25 = some (2, 5, mHelp_sameLetters) := rfl
theorem ca_3_37 : callAt 3 37 = some (0, 0, mNear_findRule) := rfl
theorem ca_3_40 : callAt 3 40 = some (0, 1, mNear_countPairs) := rfl
theorem ca_3_47 : callAt 3 47 = some (0, 2, mNear_pairsFrom) := rfl
theorem ca_3_51 : callAt 3 51 = some (0, 0, mNear_collectMissing) := rfl
theorem ca_3_74 : callAt 3 74 = some (0, 2, mRules_tokenAt) := rfl
theorem ca_3_77 : callAt 3 77 = some (0, 2, mWords_isAs) := rfl
theorem ca_3_88 : callAt 3 88 = some (0, 3, mNear_isPair) := rfl
theorem ca_3_92 : callAt 3 92 = some (0, 3, mNear_findPartner) := rfl
theorem ca_4_57 : callAt 4 57 = some (0, 1, mWords_isSeen) := rfl
theorem ca_4_61 : callAt 4 61 = some (0, 1, mProp_consider) := rfl
theorem ca_4_72 : callAt 4 72 = some (0, 3, mTable_nearestName) := rfl
theorem ca_4_91 : callAt 4 91 = some (0, 1, mRead_wouldFit) := rfl
theorem ca_4_94 : callAt 4 94 = some (0, 3, mProp_insert) := rfl
theorem ca_4_98 : callAt 4 98 = some (0, 3, mProp_isBefore) := rfl
theorem ca_5_50 : callAt 5 50 = some (0, 0, mRead_collectMeant) := rfl
theorem ca_5_53 : callAt 5 53 = some (0, 0, mRead_judge) := rfl
theorem ca_5_68 : callAt 5 68 = some (0, 3, mNames_find) := rfl
theorem ca_5_80 : callAt 5 80 = some (0, 1, mRead_wordOfTyped) := rfl
theorem ca_5_84 : callAt 5 84 = some (0, 2, mWords_isOf) := rfl
theorem ca_5_90 : callAt 5 90 = some (0, 0, mRead_findUnknown) := rfl
theorem ca_5_93 : callAt 5 93 = some (0, 0, mRead_findHidden) := rfl
theorem ca_5_96 : callAt 5 96 = some (0, 0, mRead_findFitting) := rfl
theorem ca_5_107 : callAt 5 107 = some (0, 1, mRead_beginsAs) := rfl
theorem ca_5_114 : callAt 5 114 = some (0, 2, mRules_tokenAt) := rfl
theorem ca_5_118 : callAt 5 118 = some (0, 2, mWords_isAs) := rfl
theorem ca_5_121 : callAt 5 121 = some (0, 1, mWords_isSeen) := rfl
theorem ca_5_127 : callAt 5 127 = some (0, 1, mRules_hasVerb) := rfl
theorem ca_8_41 : callAt 8 41 = some (0, 3, mTable_fill) := rfl
theorem ca_8_62 : callAt 8 62 = some (0, 5, mTable_leastCost) := rfl
theorem ca_8_66 : callAt 8 66 = some (0, 2, mTable_cost) := rfl
theorem ca_8_71 : callAt 8 71 = some (0, 2, mSett_costOfChange) := rfl
theorem ca_9_29 : callAt 9 29 = some (0, 2, mWords_isOf) := rfl
theorem ca_10_98 : callAt 10 98 = some (0, 1, mHelp_spell) := rfl
theorem ca_10_102 : callAt 10 102 = some (0, 3, mNames_find) := rfl
theorem ca_10_110 : callAt 10 110 = some (0, 1, mWords_add) := rfl
theorem ca_10_114 : callAt 10 114 = some (0, 4, mNames_add) := rfl
theorem ca_10_117 : callAt 10 117 = some (0, 2, mWords_isOf) := rfl
theorem ca_10_132 : callAt 10 132 = some (0, 1, mRules_add) := rfl
theorem ca_10_136 : callAt 10 136 = some (0, 2, mRules_addToken) := rfl
theorem ca_10_152 : callAt 10 152 = some (0, 2, mSett_makeNear) := rfl
theorem ca_10_155 : callAt 10 155 = some (1, 2, mHelp_countRuns) := rfl
theorem ca_10_159 : callAt 10 159 = some (0, 2, mLine_become) := rfl
theorem ca_10_174 : callAt 10 174 = some (0, 1, mRead_wordOfTyped) := rfl
theorem ca_10_177 : callAt 10 177 = some (0, 0, mRead_update) := rfl
theorem ca_10_190 : callAt 10 190 = some (0, 0, mProp_update) := rfl
theorem ca_10_192 : callAt 10 192 = some (0, 0, mNear_update) := rfl
theorem ca_10_200 : callAt 10 200 = some (0, 0, mHelp_countHints) := rfl
theorem ca_10_216 : callAt 10 216 = some (0, 0, mHelp_mayFixUnasked) := rfl
theorem ca_10_220 : callAt 10 220 = some (0, 1, mHelp_accept) := rfl
theorem ca_10_227 : callAt 10 227 = some (0, 1, mRead_couldComeNext) := rfl
theorem ca_10_230 : callAt 10 230 = some (0, 2, mHelp_takes) := rfl
theorem ca_10_233 : callAt 10 233 = some (0, 3, mTable_nearestName) := rfl
theorem ca_10_237 : callAt 10 237 = some (0, 3, mTable_fill) := rfl
theorem ca_10_253 : callAt 10 253 = some (0, 2, mTable_cost) := rfl
theorem ca_10_256 : callAt 10 256 = some (0, 1, mLog_countForward) := rfl
theorem ca_10_259 : callAt 10 259 = some (0, 2, mLog_findForward) := rfl
theorem ca_10_273 : callAt 10 273 = some (0, 3, mLog_forget) := rfl
theorem ca_10_277 : callAt 10 277 = some (0, 1, mNames_countOf) := rfl
theorem ca_10_281 : callAt 10 281 = some (1, 1, mHelp_letterOf) := rfl
theorem ca_10_284 : callAt 10 284 = some (0, 1, mRead_verbWith) := rfl
theorem ca_10_288 : callAt 10 288 = some (0, 4, mLog_add) := rfl
theorem ca_10_291 : callAt 10 291 = some (0, 1, mNames_firstOf) := rfl
theorem ca_10_294 : callAt 10 294 = some (0, 3, mLine_replace) := rfl
theorem ca_10_301 : callAt 10 301 = some (0, 2, mRules_tokenAt) := rfl
theorem ca_10_304 : callAt 10 304 = some (0, 2, mWords_isAs) := rfl
theorem ca_11_120 : callAt 11 120 = some (1, 3, mModel_in) := rfl
theorem ca_11_127 : callAt 11 127 = some (1, 1, mModel_small) := rfl
theorem ca_11_136 : callAt 11 136 = some (0, 3, mModel_named) := rfl
theorem ca_11_143 : callAt 11 143 = some (0, 4, mModel_name) := rfl
theorem ca_11_147 : callAt 11 147 = some (0, 2, mModel_is) := rfl
theorem ca_11_154 : callAt 11 154 = some (1, 1, mModel_isLetter) := rfl
theorem ca_11_164 : callAt 11 164 = some (1, 2, mModel_runsOf) := rfl
theorem ca_11_168 : callAt 11 168 = some (0, 0, mModel_part) := rfl
theorem ca_11_174 : callAt 11 174 = some (0, 1, mModel_inScope) := rfl
theorem ca_11_177 : callAt 11 177 = some (0, 2, mModel_isAs) := rfl
theorem ca_11_186 : callAt 11 186 = some (0, 0, mModel_fitting) := rfl
theorem ca_11_190 : callAt 11 190 = some (0, 0, mModel_judge) := rfl
theorem ca_11_193 : callAt 11 193 = some (0, 2, mModel_least) := rfl
theorem ca_11_198 : callAt 11 198 = some (0, 2, mModel_change) := rfl
theorem ca_11_204 : callAt 11 204 = some (0, 3, mModel_reckon) := rfl
theorem ca_11_214 : callAt 11 214 = some (0, 3, mModel_nearest) := rfl
theorem ca_11_217 : callAt 11 217 = some (0, 1, mModel_wouldFit) := rfl
theorem ca_11_220 : callAt 11 220 = some (0, 0, mModel_propose) := rfl
theorem ca_11_226 : callAt 11 226 = some (0, 3, mModel_isLogged) := rfl
theorem ca_11_229 : callAt 11 229 = some (0, 3, mModel_log) := rfl
theorem ca_11_232 : callAt 11 232 = some (0, 1, mModel_becomes) := rfl
theorem ca_11_245 : callAt 11 245 = some (0, 1, mModel_pairs) := rfl
theorem ca_11_251 : callAt 11 251 = some (0, 2, mModel_mayCome) := rfl
theorem ca_11_254 : callAt 11 254 = some (0, 0, mModel_hints) := rfl
theorem ca_11_257 : callAt 11 257 = some (0, 0, mModel_compare) := rfl
theorem ca_11_263 : callAt 11 263 = some (0, 1, mModel_put) := rfl
theorem ca_12_7 : callAt 12 7 = some (0, 2, mHelp_cell) := rfl
theorem ca_12_21 : callAt 12 21 = some (0, 2, mHelp_feed) := rfl
theorem ca_12_25 : callAt 12 25 = some (0, 2, mModel_feed) := rfl
theorem ca_12_26 : callAt 12 26 = some (0, 1, mHelp_word) := rfl
theorem ca_12_30 : callAt 12 30 = some (0, 1, mModel_word) := rfl
theorem ca_12_31 : callAt 12 31 = some (0, 2, mHelp_scope) := rfl
theorem ca_12_35 : callAt 12 35 = some (0, 2, mModel_scope) := rfl
theorem ca_12_36 : callAt 12 36 = some (0, 2, mHelp_classes) := rfl
theorem ca_12_39 : callAt 12 39 = some (0, 2, mModel_classes) := rfl
theorem ca_12_40 : callAt 12 40 = some (0, 2, mHelp_danger) := rfl
theorem ca_12_43 : callAt 12 43 = some (0, 2, mModel_danger) := rfl
theorem ca_12_44 : callAt 12 44 = some (0, 1, mHelp_rule) := rfl
theorem ca_12_47 : callAt 12 47 = some (0, 1, mModel_rule) := rfl
theorem ca_12_48 : callAt 12 48 = some (0, 2, mHelp_token) := rfl
theorem ca_12_51 : callAt 12 51 = some (0, 2, mModel_token) := rfl
theorem ca_12_52 : callAt 12 52 = some (0, 2, mHelp_setting) := rfl
theorem ca_12_55 : callAt 12 55 = some (0, 2, mModel_setting) := rfl
theorem ca_12_56 : callAt 12 56 = some (0, 2, mHelp_near) := rfl
theorem ca_12_59 : callAt 12 59 = some (0, 2, mModel_near) := rfl
theorem ca_12_60 : callAt 12 60 = some (0, 0, mHelp_line) := rfl
theorem ca_12_64 : callAt 12 64 = some (0, 0, mModel_line) := rfl
theorem ca_12_65 : callAt 12 65 = some (0, 1, mHelp_at) := rfl
theorem ca_12_68 : callAt 12 68 = some (0, 1, mModel_at) := rfl
theorem ca_12_69 : callAt 12 69 = some (0, 2, mHelp_typed) := rfl
theorem ca_12_72 : callAt 12 72 = some (0, 2, mModel_typed) := rfl
theorem ca_12_73 : callAt 12 73 = some (0, 0, mHelp_look) := rfl
theorem ca_12_76 : callAt 12 76 = some (0, 0, mModel_look) := rfl
theorem ca_12_77 : callAt 12 77 = some (0, 1, mHelp_told) := rfl
theorem ca_12_80 : callAt 12 80 = some (0, 1, mModel_told) := rfl
theorem ca_12_81 : callAt 12 81 = some (0, 2, mHelp_proposal) := rfl
theorem ca_12_84 : callAt 12 84 = some (0, 2, mModel_proposal) := rfl
theorem ca_12_85 : callAt 12 85 = some (0, 0, mHelp_fix) := rfl
theorem ca_12_88 : callAt 12 88 = some (0, 0, mModel_fix) := rfl
theorem ca_12_89 : callAt 12 89 = some (0, 1, mHelp_choose) := rfl
theorem ca_12_92 : callAt 12 92 = some (0, 1, mModel_choose) := rfl
theorem ca_12_93 : callAt 12 93 = some (0, 1, mHelp_missing) := rfl
theorem ca_12_96 : callAt 12 96 = some (0, 1, mModel_missing) := rfl
theorem ca_12_97 : callAt 12 97 = some (0, 1, mHelp_hint) := rfl
theorem ca_12_100 : callAt 12 100 = some (0, 1, mModel_hint) := rfl
theorem ca_12_101 : callAt 12 101 = some (0, 2, mHelp_verbs) := rfl
theorem ca_12_104 : callAt 12 104 = some (0, 2, mModel_verbs) := rfl
theorem ca_12_105 : callAt 12 105 = some (0, 2, mHelp_edits) := rfl
theorem ca_12_108 : callAt 12 108 = some (0, 2, mModel_edits) := rfl
theorem ca_12_114 : callAt 12 114 = some (0, 2, mModel_cell) := rfl
theorem ca_12_115 : callAt 12 115 = some (0, 0, mModel_thrown) := rfl
theorem ca_12_118 : callAt 12 118 = some (0, 0, mHelp_forward) := rfl
theorem ca_12_121 : callAt 12 121 = some (0, 0, mModel_forward) := rfl
theorem ca_12_122 : callAt 12 122 = some (0, 2, mHelp_pair) := rfl
theorem ca_12_125 : callAt 12 125 = some (0, 2, mModel_pair) := rfl
theorem ca_12_126 : callAt 12 126 = some (0, 1, mHelp_learn) := rfl
theorem ca_12_129 : callAt 12 129 = some (0, 1, mModel_learn) := rfl
theorem ca_12_130 : callAt 12 130 = some (0, 1, mHelp_count) := rfl
theorem ca_12_133 : callAt 12 133 = some (0, 1, mModel_count) := rfl
def JT : List (Nat × Nat × Nat × Nat) := [(0, 34, 0, 528), (1, 36, 0, 716), (2, 29, 0, 464), (3, 83, 1, 657), (7, 18, 0, 84), (8, 74, 2, 626)]
def jdkAt (o i : Nat) : Option Nat := (JT.find? (fun e => e.1 == o && e.2.1 == i)).map (fun e => e.2.2.1)
def jdkN (k : Nat) : MethodName := match k with
  | 0 => arraycopyName
  | 1 => Lib.Math.max.name
  | _ => Lib.Math.min.name
theorem JT_ok : ∀ e ∈ JT, lw_tbl[e.2.2.2]? = some (Cond.methodLink (RN e.1) e.2.1 (jdkN e.2.2.1)) := by decide +kernel
theorem jdkAt_ok {o i k : Nat} (hf : jdkAt o i = some k) : Cond.methodLink (RN o) i (jdkN k) ∈ TBL := by
  unfold jdkAt at hf
  obtain ⟨e, he, e2⟩ := Option.map_eq_some_iff.mp hf
  have hm := JT_ok e (List.mem_of_find?_eq_some he)
  have hp := List.find?_some he
  simp only [Bool.and_eq_true, beq_iff_eq] at hp
  obtain ⟨a, b, c, d⟩ := e
  obtain ⟨rfl, rfl⟩ := hp
  cases e2
  exact mem_TBL (List.mem_of_getElem? hm) rfl
theorem ja_0_34 : jdkAt 0 34 = some 0 := by decide +kernel
theorem ja_1_36 : jdkAt 1 36 = some 0 := by decide +kernel
theorem ja_2_29 : jdkAt 2 29 = some 0 := by decide +kernel
theorem ja_3_83 : jdkAt 3 83 = some 1 := by decide +kernel
theorem ja_7_18 : jdkAt 7 18 = some 0 := by decide +kernel
theorem ja_8_74 : jdkAt 8 74 = some 2 := by decide +kernel
