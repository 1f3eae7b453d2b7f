/-! scope, classes, danger, rule, token, setting, near -/
def isK (h : HP) (w k : Int) : Prop := 0 ≤ w ∧ w < h 10 4 ∧ h 11 w.toNat = k
def isM (h : HP) (w k : Int) : Prop := 0 ≤ w ∧ w < h 43 1 ∧ h 44 w.toNat = k
def qSet (t : Prop) (r0 : Int) (h1 h : HP) (r : Int) (h' : HP) : Prop := (¬ t ∧ r = -2 ∧ h' = h) ∨ (t ∧ r = r0 ∧ h' = h1)
set_option maxRecDepth 100000 in
set_option maxHeartbeats 4000000 in
theorem t_Help_scope (h : HP) (w on : Int) (hw : h 10 4 ≤ 60) (hon : on = 0 ∨ on = 1) (hb : h 13 w.toNat = 0 ∨ h 13 w.toNat = 1) : trI mHelp_scope [.inr (.inr 0), .inl w, .inl on] SH0 h (qSet (isK h w 1) (h 13 w.toNat) (up h 13 w.toNat on) h) := by
  refine startI [some (.inr (.inr 0)), some (.inl w), some (.inl on), none] mHelp_scope_c (go [9999] 400 (k := ?_))
  simp (config := {maxSteps := 1000000}) only [↓pI_c, ↓pR_c, ↓pJ_c, ↓pV_c, ↓popN_0, ↓popN_s, ↓lI_0, ↓lR_0, ↓lJ_0, ↓lI_s, ↓lR_s, ↓lJ_s, ↓okSt_0, ↓okSt_I, ↓okSt_R, ↓okSt_N, ↓okSt_s, ↓rtI_s, ↓rtV_n, ↓brP_t, ↓brP_f, ↓sHelp_scope_0, ↓sHelp_scope_1, ↓rf_0_5, ↓sHelp_scope_4, ↓sHelp_scope_5, ↓sHelp_scope_6, ↓sHelp_scope_9, ↓sHelp_scope_12, ↓sHelp_scope_14, ↓sHelp_scope_15, ↓sHelp_scope_16, ↓sHelp_scope_19, ↓rf_10_2, ↓sHelp_scope_22, ↓sHelp_scope_23, ↓sHelp_scope_24, ↓sHelp_scope_27, ↓sHelp_scope_28, ↓sHelp_scope_31, ↓sHelp_scope_32, ↓sHelp_scope_33, ↓sHelp_scope_34, ↓sHelp_scope_37, ↓sHelp_scope_40, ↓sHelp_scope_41, ↓sHelp_scope_42, ↓sHelp_scope_43, ↓sHelp_scope_44, ↓ln_13, List.set_cons_zero, List.set_cons_succ, List.length_cons, List.length_nil, List.contains_cons, List.contains_nil, cat1, brP_d, true_and, and_true, not_false_eq_true, not_true_eq_false, if_true, if_false, Bool.or_false, Bool.false_or, Bool.or_true, Bool.true_or, Bool.false_eq_true, Bool.or_self, false_implies, true_implies, forall_const, and_self, implies_true, true_or, or_true, or_false, false_or, or_self, Classical.not_not, Int.reduceAdd, Int.reduceSub, Int.reduceMul, Int.reduceNeg, Int.reduceToNat, Int.reduceLT, Int.reduceLE, Int.reduceEq, Int.reduceNe, Int.reduceNatCast', Nat.reduceAdd, Nat.reduceSub, Nat.reduceLeDiff, Nat.reduceLT, Nat.reduceEqDiff, Nat.reduceBEq, reduceIte, nx_w, nx_c, up_n, up_s, up_f, ne_eq, Nat.reduceEqDiff, Option.some.injEq, Prod.mk.injEq, exists_eq_left', reduceCtorEq, ob_10]
  refine use_p (t_Words_isOf h w 1 hw) ?_
  grind [b2, qSet, isK]
set_option maxRecDepth 100000 in
set_option maxHeartbeats 4000000 in
theorem t_Help_danger (h : HP) (w on : Int) (hw : h 10 4 ≤ 60) (hon : on = 0 ∨ on = 1) (hb : h 14 w.toNat = 0 ∨ h 14 w.toNat = 1) : trI mHelp_danger [.inr (.inr 0), .inl w, .inl on] SH0 h (qSet (isK h w 0) (h 14 w.toNat) (up h 14 w.toNat on) h) := by
  refine startI [some (.inr (.inr 0)), some (.inl w), some (.inl on), none] mHelp_danger_c (go [9999] 400 (k := ?_))
  simp (config := {maxSteps := 1000000}) only [↓pI_c, ↓pR_c, ↓pJ_c, ↓pV_c, ↓popN_0, ↓popN_s, ↓lI_0, ↓lR_0, ↓lJ_0, ↓lI_s, ↓lR_s, ↓lJ_s, ↓okSt_0, ↓okSt_I, ↓okSt_R, ↓okSt_N, ↓okSt_s, ↓rtI_s, ↓rtV_n, ↓brP_t, ↓brP_f, ↓sHelp_danger_0, ↓sHelp_danger_1, ↓rf_0_5, ↓sHelp_danger_4, ↓sHelp_danger_5, ↓sHelp_danger_6, ↓sHelp_danger_9, ↓sHelp_danger_12, ↓sHelp_danger_14, ↓sHelp_danger_15, ↓sHelp_danger_16, ↓sHelp_danger_19, ↓rf_10_3, ↓sHelp_danger_22, ↓sHelp_danger_23, ↓sHelp_danger_24, ↓sHelp_danger_27, ↓sHelp_danger_28, ↓sHelp_danger_31, ↓sHelp_danger_32, ↓sHelp_danger_33, ↓sHelp_danger_34, ↓sHelp_danger_37, ↓sHelp_danger_40, ↓sHelp_danger_41, ↓sHelp_danger_42, ↓sHelp_danger_43, ↓sHelp_danger_44, ↓ln_14, List.set_cons_zero, List.set_cons_succ, List.length_cons, List.length_nil, List.contains_cons, List.contains_nil, cat1, brP_d, true_and, and_true, not_false_eq_true, not_true_eq_false, if_true, if_false, Bool.or_false, Bool.false_or, Bool.or_true, Bool.true_or, Bool.false_eq_true, Bool.or_self, false_implies, true_implies, forall_const, and_self, implies_true, true_or, or_true, or_false, false_or, or_self, Classical.not_not, Int.reduceAdd, Int.reduceSub, Int.reduceMul, Int.reduceNeg, Int.reduceToNat, Int.reduceLT, Int.reduceLE, Int.reduceEq, Int.reduceNe, Int.reduceNatCast', Nat.reduceAdd, Nat.reduceSub, Nat.reduceLeDiff, Nat.reduceLT, Nat.reduceEqDiff, Nat.reduceBEq, reduceIte, nx_w, nx_c, up_n, up_s, up_f, ne_eq, Nat.reduceEqDiff, Option.some.injEq, Prod.mk.injEq, exists_eq_left', reduceCtorEq, ob_10]
  refine use_p (t_Words_isOf h w 0 hw) ?_
  grind [b2, qSet, isK]
set_option maxRecDepth 100000 in
set_option maxHeartbeats 4000000 in
theorem t_Help_classes (h : HP) (w b : Int) (hw : h 10 4 ≤ 60) : trI mHelp_classes [.inr (.inr 0), .inl w, .inl b] SH0 h (qSet (isK h w 1 ∧ 0 ≤ b ∧ b ≤ 255) (h 12 w.toNat) (up h 12 w.toNat b) h) := by
  refine startI [some (.inr (.inr 0)), some (.inl w), some (.inl b), none] mHelp_classes_c (go [9999] 400 (k := ?_))
  simp (config := {maxSteps := 1000000}) only [↓pI_c, ↓pR_c, ↓pJ_c, ↓pV_c, ↓popN_0, ↓popN_s, ↓lI_0, ↓lR_0, ↓lJ_0, ↓lI_s, ↓lR_s, ↓lJ_s, ↓okSt_0, ↓okSt_I, ↓okSt_R, ↓okSt_N, ↓okSt_s, ↓rtI_s, ↓rtV_n, ↓brP_t, ↓brP_f, ↓sHelp_classes_0, ↓sHelp_classes_1, ↓rf_0_5, ↓sHelp_classes_4, ↓sHelp_classes_5, ↓sHelp_classes_6, ↓sHelp_classes_9, ↓sHelp_classes_12, ↓sHelp_classes_13, ↓sHelp_classes_16, ↓sHelp_classes_17, ↓sHelp_classes_20, ↓sHelp_classes_23, ↓sHelp_classes_25, ↓sHelp_classes_26, ↓sHelp_classes_27, ↓sHelp_classes_30, ↓rf_10_1, ↓sHelp_classes_33, ↓sHelp_classes_34, ↓sHelp_classes_35, ↓sHelp_classes_36, ↓sHelp_classes_37, ↓sHelp_classes_40, ↓sHelp_classes_43, ↓sHelp_classes_44, ↓sHelp_classes_45, ↓sHelp_classes_46, ↓sHelp_classes_47, ↓ln_12, List.set_cons_zero, List.set_cons_succ, List.length_cons, List.length_nil, List.contains_cons, List.contains_nil, cat1, brP_d, true_and, and_true, not_false_eq_true, not_true_eq_false, if_true, if_false, Bool.or_false, Bool.false_or, Bool.or_true, Bool.true_or, Bool.false_eq_true, Bool.or_self, false_implies, true_implies, forall_const, and_self, implies_true, true_or, or_true, or_false, false_or, or_self, Classical.not_not, Int.reduceAdd, Int.reduceSub, Int.reduceMul, Int.reduceNeg, Int.reduceToNat, Int.reduceLT, Int.reduceLE, Int.reduceEq, Int.reduceNe, Int.reduceNatCast', Nat.reduceAdd, Nat.reduceSub, Nat.reduceLeDiff, Nat.reduceLT, Nat.reduceEqDiff, Nat.reduceBEq, reduceIte, nx_w, nx_c, up_n, up_s, up_f, ne_eq, Nat.reduceEqDiff, Option.some.injEq, Prod.mk.injEq, exists_eq_left', reduceCtorEq, ob_10]
  refine use_p (t_Words_isOf h w 1 hw) ?_
  grind [b2, qSet, isK]
set_option maxRecDepth 100000 in
set_option maxHeartbeats 4000000 in
theorem t_Model_scope (h : HP) (w on : Int) (hw : 0 ≤ h 43 1 ∧ h 43 1 ≤ 60) (hon : on = 0 ∨ on = 1) (hb : h 45 w.toNat = 0 ∨ h 45 w.toNat = 1) : trI mModel_scope [.inr (.inr 43), .inl w, .inl on] SH0 h (qSet (isM h w 1) (h 45 w.toNat) (up (up h 43 0 0) 45 w.toNat on) (up h 43 0 0)) := by
  refine startI [some (.inr (.inr 43)), some (.inl w), some (.inl on), none] mModel_scope_c (go [9999] 400 (k := ?_))
  simp (config := {maxSteps := 1000000}) only [↓pI_c, ↓pR_c, ↓pJ_c, ↓pV_c, ↓popN_0, ↓popN_s, ↓lI_0, ↓lR_0, ↓lJ_0, ↓lI_s, ↓lR_s, ↓lJ_s, ↓okSt_0, ↓okSt_I, ↓okSt_R, ↓okSt_N, ↓okSt_s, ↓rtI_s, ↓rtV_n, ↓brP_t, ↓brP_f, ↓sModel_scope_0, ↓sModel_scope_1, ↓sModel_scope_2, ↓rf_43_0, ↓sModel_scope_5, ↓sModel_scope_6, ↓sModel_scope_7, ↓sModel_scope_8, ↓sModel_scope_11, ↓sModel_scope_14, ↓sModel_scope_16, ↓sModel_scope_17, ↓sModel_scope_18, ↓rf_43_3, ↓sModel_scope_21, ↓sModel_scope_22, ↓sModel_scope_23, ↓sModel_scope_26, ↓sModel_scope_27, ↓sModel_scope_30, ↓sModel_scope_31, ↓sModel_scope_32, ↓sModel_scope_33, ↓sModel_scope_36, ↓sModel_scope_37, ↓sModel_scope_38, ↓sModel_scope_39, ↓sModel_scope_40, ↓ln_45, List.set_cons_zero, List.set_cons_succ, List.length_cons, List.length_nil, List.contains_cons, List.contains_nil, cat1, brP_d, true_and, and_true, not_false_eq_true, not_true_eq_false, if_true, if_false, Bool.or_false, Bool.false_or, Bool.or_true, Bool.true_or, Bool.false_eq_true, Bool.or_self, false_implies, true_implies, forall_const, and_self, implies_true, true_or, or_true, or_false, false_or, or_self, Classical.not_not, Int.reduceAdd, Int.reduceSub, Int.reduceMul, Int.reduceNeg, Int.reduceToNat, Int.reduceLT, Int.reduceLE, Int.reduceEq, Int.reduceNe, Int.reduceNatCast', Nat.reduceAdd, Nat.reduceSub, Nat.reduceLeDiff, Nat.reduceLT, Nat.reduceEqDiff, Nat.reduceBEq, reduceIte, nx_w, nx_c, up_n, up_s, up_f, ne_eq, Nat.reduceEqDiff, Option.some.injEq, Prod.mk.injEq, exists_eq_left', reduceCtorEq, ob_43]
  refine use_p (t_Model_is _ w 1 (by simpa only [up_f, ne_eq, Nat.reduceEqDiff, not_false_eq_true] using hw)) ?_
  simp only [up_n, up_f, ne_eq, Nat.reduceEqDiff, not_false_eq_true]
  grind [b2, qSet, isM]
set_option maxRecDepth 100000 in
set_option maxHeartbeats 4000000 in
theorem t_Model_danger (h : HP) (w on : Int) (hw : 0 ≤ h 43 1 ∧ h 43 1 ≤ 60) (hon : on = 0 ∨ on = 1) (hb : h 46 w.toNat = 0 ∨ h 46 w.toNat = 1) : trI mModel_danger [.inr (.inr 43), .inl w, .inl on] SH0 h (qSet (isM h w 0) (h 46 w.toNat) (up (up h 43 0 0) 46 w.toNat on) (up h 43 0 0)) := by
  refine startI [some (.inr (.inr 43)), some (.inl w), some (.inl on), none] mModel_danger_c (go [9999] 400 (k := ?_))
  simp (config := {maxSteps := 1000000}) only [↓pI_c, ↓pR_c, ↓pJ_c, ↓pV_c, ↓popN_0, ↓popN_s, ↓lI_0, ↓lR_0, ↓lJ_0, ↓lI_s, ↓lR_s, ↓lJ_s, ↓okSt_0, ↓okSt_I, ↓okSt_R, ↓okSt_N, ↓okSt_s, ↓rtI_s, ↓rtV_n, ↓brP_t, ↓brP_f, ↓sModel_danger_0, ↓sModel_danger_1, ↓sModel_danger_2, ↓rf_43_0, ↓sModel_danger_5, ↓sModel_danger_6, ↓sModel_danger_7, ↓sModel_danger_8, ↓sModel_danger_11, ↓sModel_danger_14, ↓sModel_danger_16, ↓sModel_danger_17, ↓sModel_danger_18, ↓rf_43_4, ↓sModel_danger_21, ↓sModel_danger_22, ↓sModel_danger_23, ↓sModel_danger_26, ↓sModel_danger_27, ↓sModel_danger_30, ↓sModel_danger_31, ↓sModel_danger_32, ↓sModel_danger_33, ↓sModel_danger_36, ↓sModel_danger_37, ↓sModel_danger_38, ↓sModel_danger_39, ↓sModel_danger_40, ↓ln_46, List.set_cons_zero, List.set_cons_succ, List.length_cons, List.length_nil, List.contains_cons, List.contains_nil, cat1, brP_d, true_and, and_true, not_false_eq_true, not_true_eq_false, if_true, if_false, Bool.or_false, Bool.false_or, Bool.or_true, Bool.true_or, Bool.false_eq_true, Bool.or_self, false_implies, true_implies, forall_const, and_self, implies_true, true_or, or_true, or_false, false_or, or_self, Classical.not_not, Int.reduceAdd, Int.reduceSub, Int.reduceMul, Int.reduceNeg, Int.reduceToNat, Int.reduceLT, Int.reduceLE, Int.reduceEq, Int.reduceNe, Int.reduceNatCast', Nat.reduceAdd, Nat.reduceSub, Nat.reduceLeDiff, Nat.reduceLT, Nat.reduceEqDiff, Nat.reduceBEq, reduceIte, nx_w, nx_c, up_n, up_s, up_f, ne_eq, Nat.reduceEqDiff, Option.some.injEq, Prod.mk.injEq, exists_eq_left', reduceCtorEq, ob_43]
  refine use_p (t_Model_is _ w 0 (by simpa only [up_f, ne_eq, Nat.reduceEqDiff, not_false_eq_true] using hw)) ?_
  simp only [up_n, up_f, ne_eq, Nat.reduceEqDiff, not_false_eq_true]
  grind [b2, qSet, isM]
set_option maxRecDepth 100000 in
set_option maxHeartbeats 4000000 in
theorem t_Model_classes (h : HP) (w b : Int) (hw : 0 ≤ h 43 1 ∧ h 43 1 ≤ 60) : trI mModel_classes [.inr (.inr 43), .inl w, .inl b] SH0 h (qSet (isM h w 1 ∧ 0 ≤ b ∧ b ≤ 255) (h 47 w.toNat) (up (up h 43 0 0) 47 w.toNat b) (up h 43 0 0)) := by
  refine startI [some (.inr (.inr 43)), some (.inl w), some (.inl b), none] mModel_classes_c (go [9999] 400 (k := ?_))
  simp (config := {maxSteps := 1000000}) only [↓pI_c, ↓pR_c, ↓pJ_c, ↓pV_c, ↓popN_0, ↓popN_s, ↓lI_0, ↓lR_0, ↓lJ_0, ↓lI_s, ↓lR_s, ↓lJ_s, ↓okSt_0, ↓okSt_I, ↓okSt_R, ↓okSt_N, ↓okSt_s, ↓rtI_s, ↓rtV_n, ↓brP_t, ↓brP_f, ↓sModel_classes_0, ↓sModel_classes_1, ↓sModel_classes_2, ↓rf_43_0, ↓sModel_classes_5, ↓sModel_classes_6, ↓sModel_classes_7, ↓sModel_classes_8, ↓sModel_classes_11, ↓sModel_classes_14, ↓sModel_classes_15, ↓sModel_classes_16, ↓sModel_classes_19, ↓sModel_classes_22, ↓sModel_classes_25, ↓sModel_classes_27, ↓sModel_classes_28, ↓sModel_classes_29, ↓rf_43_5, ↓sModel_classes_32, ↓sModel_classes_33, ↓sModel_classes_34, ↓sModel_classes_35, ↓sModel_classes_36, ↓sModel_classes_39, ↓sModel_classes_40, ↓sModel_classes_41, ↓sModel_classes_42, ↓sModel_classes_43, ↓ln_47, List.set_cons_zero, List.set_cons_succ, List.length_cons, List.length_nil, List.contains_cons, List.contains_nil, cat1, brP_d, true_and, and_true, not_false_eq_true, not_true_eq_false, if_true, if_false, Bool.or_false, Bool.false_or, Bool.or_true, Bool.true_or, Bool.false_eq_true, Bool.or_self, false_implies, true_implies, forall_const, and_self, implies_true, true_or, or_true, or_false, false_or, or_self, Classical.not_not, Int.reduceAdd, Int.reduceSub, Int.reduceMul, Int.reduceNeg, Int.reduceToNat, Int.reduceLT, Int.reduceLE, Int.reduceEq, Int.reduceNe, Int.reduceNatCast', Nat.reduceAdd, Nat.reduceSub, Nat.reduceLeDiff, Nat.reduceLT, Nat.reduceEqDiff, Nat.reduceBEq, reduceIte, nx_w, nx_c, up_n, up_s, up_f, ne_eq, Nat.reduceEqDiff, Option.some.injEq, Prod.mk.injEq, exists_eq_left', reduceCtorEq, ob_43]
  refine use_p (t_Model_is _ w 1 (by simpa only [up_f, ne_eq, Nat.reduceEqDiff, not_false_eq_true] using hw)) ?_
  simp only [up_n, up_f, ne_eq, Nat.reduceEqDiff, not_false_eq_true]
  constructor
  · intro h1
    grind [b2, qSet, isM]
  · intro h1
    refine use_p (t_Model_in _ b 0 255) ?_
    simp only [up_n, up_f, ne_eq, Nat.reduceEqDiff, not_false_eq_true]
    grind [b2, qSet, isM]
-- rule, token
set_option maxRecDepth 100000 in
set_option maxHeartbeats 4000000 in
theorem t_Rules_add (h : HP) (w : Int) (hr : 0 ≤ h 15 3 ∧ h 15 3 < 40) : trI mRules_add [.inr (.inr 15), .inl w] SH0 h (fun r h' => r = h 15 3 ∧ h' = up (up h 16 (h 15 3).toNat w) 15 3 (h 15 3 + 1)) := by
  refine startI [some (.inr (.inr 15)), some (.inl w), none] mRules_add_c (go [9999] 400 (k := ?_))
  simp (config := {maxSteps := 1000000}) only [↓pI_c, ↓pR_c, ↓pJ_c, ↓pV_c, ↓popN_0, ↓popN_s, ↓lI_0, ↓lR_0, ↓lJ_0, ↓lI_s, ↓lR_s, ↓lJ_s, ↓okSt_0, ↓okSt_I, ↓okSt_R, ↓okSt_N, ↓okSt_s, ↓rtI_s, ↓rtV_n, ↓brP_t, ↓brP_f, ↓sRules_add_0, ↓sRules_add_1, ↓rf_15_3, ↓sRules_add_4, ↓sRules_add_5, ↓sRules_add_6, ↓rf_15_0, ↓sRules_add_9, ↓sRules_add_10, ↓sRules_add_11, ↓sRules_add_12, ↓sRules_add_13, ↓sRules_add_14, ↓sRules_add_17, ↓sRules_add_18, ↓sRules_add_19, ↓sRules_add_22, ↓sRules_add_23, ↓ln_16, List.set_cons_zero, List.set_cons_succ, List.length_cons, List.length_nil, List.contains_cons, List.contains_nil, cat1, brP_d, true_and, and_true, not_false_eq_true, not_true_eq_false, if_true, if_false, Bool.or_false, Bool.false_or, Bool.or_true, Bool.true_or, Bool.false_eq_true, Bool.or_self, false_implies, true_implies, forall_const, and_self, implies_true, true_or, or_true, or_false, false_or, or_self, Classical.not_not, Int.reduceAdd, Int.reduceSub, Int.reduceMul, Int.reduceNeg, Int.reduceToNat, Int.reduceLT, Int.reduceLE, Int.reduceEq, Int.reduceNe, Int.reduceNatCast', Nat.reduceAdd, Nat.reduceSub, Nat.reduceLeDiff, Nat.reduceLT, Nat.reduceEqDiff, Nat.reduceBEq, reduceIte, nx_w, nx_c, up_n, up_s, up_f, ne_eq, Nat.reduceEqDiff, Option.some.injEq, Prod.mk.injEq, exists_eq_left', reduceCtorEq]
  rw [wr_id (by omega) (by omega)]
  grind
def qFull (t f : Prop) (r0 : Int) (h1 h : HP) (r : Int) (h' : HP) : Prop := (¬ t ∧ r = -2 ∧ h' = h) ∨ (t ∧ f ∧ r = -4 ∧ h' = h) ∨ (t ∧ ¬ f ∧ r = r0 ∧ h' = h1)
set_option maxRecDepth 100000 in
set_option maxHeartbeats 4000000 in
theorem t_Help_rule (h : HP) (w : Int) (hw : h 10 4 ≤ 60) (hr : 0 ≤ h 15 3 ∧ h 15 3 ≤ 40) : trI mHelp_rule [.inr (.inr 0), .inl w] SH0 h (qFull (isK h w 0) (40 ≤ h 15 3) (h 15 3) (up (up h 16 (h 15 3).toNat w) 15 3 (h 15 3 + 1)) h) := by
  refine startI [some (.inr (.inr 0)), some (.inl w)] mHelp_rule_c (go [9999] 400 (k := ?_))
  simp (config := {maxSteps := 1000000}) only [↓pI_c, ↓pR_c, ↓pJ_c, ↓pV_c, ↓popN_0, ↓popN_s, ↓lI_0, ↓lR_0, ↓lJ_0, ↓lI_s, ↓lR_s, ↓lJ_s, ↓okSt_0, ↓okSt_I, ↓okSt_R, ↓okSt_N, ↓okSt_s, ↓rtI_s, ↓rtV_n, ↓brP_t, ↓brP_f, ↓sHelp_rule_0, ↓sHelp_rule_1, ↓rf_0_5, ↓sHelp_rule_4, ↓sHelp_rule_5, ↓sHelp_rule_6, ↓sHelp_rule_9, ↓sHelp_rule_12, ↓sHelp_rule_14, ↓sHelp_rule_15, ↓sHelp_rule_16, ↓rf_0_6, ↓sHelp_rule_19, ↓rf_15_3, ↓sHelp_rule_22, ↓sHelp_rule_24, ↓sHelp_rule_27, ↓sHelp_rule_29, ↓sHelp_rule_30, ↓sHelp_rule_31, ↓sHelp_rule_34, ↓sHelp_rule_35, ↓sHelp_rule_38, List.set_cons_zero, List.set_cons_succ, List.length_cons, List.length_nil, List.contains_cons, List.contains_nil, cat1, brP_d, true_and, and_true, not_false_eq_true, not_true_eq_false, if_true, if_false, Bool.or_false, Bool.false_or, Bool.or_true, Bool.true_or, Bool.false_eq_true, Bool.or_self, false_implies, true_implies, forall_const, and_self, implies_true, true_or, or_true, or_false, false_or, or_self, Classical.not_not, Int.reduceAdd, Int.reduceSub, Int.reduceMul, Int.reduceNeg, Int.reduceToNat, Int.reduceLT, Int.reduceLE, Int.reduceEq, Int.reduceNe, Int.reduceNatCast', Nat.reduceAdd, Nat.reduceSub, Nat.reduceLeDiff, Nat.reduceLT, Nat.reduceEqDiff, Nat.reduceBEq, reduceIte, nx_w, nx_c, up_n, up_s, up_f, ne_eq, Nat.reduceEqDiff, Option.some.injEq, Prod.mk.injEq, exists_eq_left', reduceCtorEq, ob_10, ob_15]
  refine use_p (t_Words_isOf h w 0 hw) ?_
  constructor
  · intro h1
    constructor
    · intro h2
      refine trI_use (t_Rules_add _ w ⟨hr.1, h2⟩) ?_
      rintro _ _ ⟨rfl, rfl⟩
      grind [b2, qFull, isK]
    · intro h2
      grind [b2, qFull, isK]
  · intro h1
    grind [b2, qFull, isK]
set_option maxRecDepth 100000 in
set_option maxHeartbeats 4000000 in
theorem t_Model_rule (h : HP) (w : Int) (hw : 0 ≤ h 43 1 ∧ h 43 1 ≤ 60) (hr : 0 ≤ h 43 10 ∧ h 43 10 ≤ 40) : trI mModel_rule [.inr (.inr 43), .inl w] SH0 h (qFull (isM h w 0) (40 ≤ h 43 10) (h 43 10) (up (up (up h 43 0 0) 51 (h 43 10).toNat w) 43 10 (h 43 10 + 1)) (up h 43 0 0)) := by
  refine startI [some (.inr (.inr 43)), some (.inl w)] mModel_rule_c (go [9999] 400 (k := ?_))
  simp (config := {maxSteps := 1000000}) only [↓pI_c, ↓pR_c, ↓pJ_c, ↓pV_c, ↓popN_0, ↓popN_s, ↓lI_0, ↓lR_0, ↓lJ_0, ↓lI_s, ↓lR_s, ↓lJ_s, ↓okSt_0, ↓okSt_I, ↓okSt_R, ↓okSt_N, ↓okSt_s, ↓rtI_s, ↓rtV_n, ↓brP_t, ↓brP_f, ↓sModel_rule_0, ↓sModel_rule_1, ↓sModel_rule_2, ↓rf_43_0, ↓sModel_rule_5, ↓sModel_rule_6, ↓sModel_rule_7, ↓sModel_rule_8, ↓sModel_rule_11, ↓sModel_rule_14, ↓sModel_rule_16, ↓sModel_rule_17, ↓sModel_rule_18, ↓rf_43_10, ↓sModel_rule_21, ↓sModel_rule_23, ↓sModel_rule_26, ↓sModel_rule_28, ↓sModel_rule_29, ↓sModel_rule_30, ↓rf_43_11, ↓sModel_rule_33, ↓sModel_rule_34, ↓sModel_rule_37, ↓sModel_rule_38, ↓sModel_rule_39, ↓sModel_rule_40, ↓sModel_rule_41, ↓sModel_rule_44, ↓sModel_rule_45, ↓sModel_rule_46, ↓sModel_rule_49, ↓sModel_rule_50, ↓sModel_rule_53, ↓sModel_rule_54, ↓sModel_rule_55, ↓ln_51, List.set_cons_zero, List.set_cons_succ, List.length_cons, List.length_nil, List.contains_cons, List.contains_nil, cat1, brP_d, true_and, and_true, not_false_eq_true, not_true_eq_false, if_true, if_false, Bool.or_false, Bool.false_or, Bool.or_true, Bool.true_or, Bool.false_eq_true, Bool.or_self, false_implies, true_implies, forall_const, and_self, implies_true, true_or, or_true, or_false, false_or, or_self, Classical.not_not, Int.reduceAdd, Int.reduceSub, Int.reduceMul, Int.reduceNeg, Int.reduceToNat, Int.reduceLT, Int.reduceLE, Int.reduceEq, Int.reduceNe, Int.reduceNatCast', Nat.reduceAdd, Nat.reduceSub, Nat.reduceLeDiff, Nat.reduceLT, Nat.reduceEqDiff, Nat.reduceBEq, reduceIte, nx_w, nx_c, up_n, up_s, up_f, ne_eq, Nat.reduceEqDiff, Option.some.injEq, Prod.mk.injEq, exists_eq_left', reduceCtorEq, ob_43]
  refine use_p (t_Model_is _ w 0 (by simpa only [up_f, ne_eq, Nat.reduceEqDiff, not_false_eq_true] using hw)) ?_
  simp only [up_n, up_f, ne_eq, Nat.reduceEqDiff, not_false_eq_true]
  rw [wr_id (x := h 43 10 + 1) (by omega) (by omega), wr_id (x := h 43 10 + 1 - 1) (by omega) (by omega)]
  grind [b2, qFull, isM]
set_option maxRecDepth 100000 in
set_option maxHeartbeats 4000000 in
theorem t_Rules_addToken (h : HP) (w t : Int) (hr : 0 ≤ w ∧ w < 40) (hl : 0 ≤ h 17 w.toNat ∧ h 17 w.toNat < 4) : trI mRules_addToken [.inr (.inr 15), .inl w, .inl t] SH0 h (fun r h' => r = h 17 w.toNat + 1 ∧ h' = up (up h 18 (w * 4 + h 17 w.toNat).toNat t) 17 w.toNat (h 17 w.toNat + 1)) := by
  refine startI [some (.inr (.inr 15)), some (.inl w), some (.inl t)] mRules_addToken_c (go [9999] 400 (k := ?_))
  simp (config := {maxSteps := 1000000}) only [↓pI_c, ↓pR_c, ↓pJ_c, ↓pV_c, ↓popN_0, ↓popN_s, ↓lI_0, ↓lR_0, ↓lJ_0, ↓lI_s, ↓lR_s, ↓lJ_s, ↓okSt_0, ↓okSt_I, ↓okSt_R, ↓okSt_N, ↓okSt_s, ↓rtI_s, ↓rtV_n, ↓brP_t, ↓brP_f, ↓sRules_addToken_0, ↓sRules_addToken_1, ↓rf_15_2, ↓sRules_addToken_4, ↓sRules_addToken_5, ↓sRules_addToken_6, ↓sRules_addToken_7, ↓sRules_addToken_8, ↓rf_15_1, ↓sRules_addToken_11, ↓sRules_addToken_12, ↓sRules_addToken_13, ↓sRules_addToken_14, ↓sRules_addToken_15, ↓sRules_addToken_16, ↓sRules_addToken_17, ↓sRules_addToken_20, ↓sRules_addToken_21, ↓sRules_addToken_22, ↓sRules_addToken_23, ↓sRules_addToken_24, ↓sRules_addToken_25, ↓sRules_addToken_26, ↓sRules_addToken_27, ↓sRules_addToken_30, ↓sRules_addToken_31, ↓sRules_addToken_32, ↓ln_17, ↓ln_18, List.set_cons_zero, List.set_cons_succ, List.length_cons, List.length_nil, List.contains_cons, List.contains_nil, cat1, brP_d, true_and, and_true, not_false_eq_true, not_true_eq_false, if_true, if_false, Bool.or_false, Bool.false_or, Bool.or_true, Bool.true_or, Bool.false_eq_true, Bool.or_self, false_implies, true_implies, forall_const, and_self, implies_true, true_or, or_true, or_false, false_or, or_self, Classical.not_not, Int.reduceAdd, Int.reduceSub, Int.reduceMul, Int.reduceNeg, Int.reduceToNat, Int.reduceLT, Int.reduceLE, Int.reduceEq, Int.reduceNe, Int.reduceNatCast', Nat.reduceAdd, Nat.reduceSub, Nat.reduceLeDiff, Nat.reduceLT, Nat.reduceEqDiff, Nat.reduceBEq, reduceIte, nx_w, nx_c, up_n, up_s, up_f, ne_eq, Nat.reduceEqDiff, Option.some.injEq, Prod.mk.injEq, exists_eq_left', reduceCtorEq]
  rw [wr_id (x := w * 4) (by omega) (by omega), wr_id (x := w * 4 + h 17 w.toNat) (by omega) (by omega), wr_id (x := h 17 w.toNat + 1) (by omega) (by omega)]
  grind
set_option maxRecDepth 100000 in
set_option maxHeartbeats 4000000 in
theorem t_Help_token (h : HP) (k t : Int) (hw : h 10 4 ≤ 60) (hr : 0 ≤ h 15 3 ∧ h 15 3 ≤ 40) (hl : 0 ≤ h 17 k.toNat ∧ h 17 k.toNat ≤ 4) : trI mHelp_token [.inr (.inr 0), .inl k, .inl t] SH0 h (qFull ((0 ≤ k ∧ k < h 15 3) ∧ (isK h t 2 ∨ (-9 ≤ t ∧ t ≤ -1))) (4 ≤ h 17 k.toNat) (h 17 k.toNat + 1) (up (up h 18 (k * 4 + h 17 k.toNat).toNat t) 17 k.toNat (h 17 k.toNat + 1)) h) := by
  refine startI [some (.inr (.inr 0)), some (.inl k), some (.inl t), none] mHelp_token_c (go [28] 400 (k := ?_))
  simp (config := {maxSteps := 1000000}) only [↓pI_c, ↓pR_c, ↓pJ_c, ↓pV_c, ↓popN_0, ↓popN_s, ↓lI_0, ↓lR_0, ↓lJ_0, ↓lI_s, ↓lR_s, ↓lJ_s, ↓okSt_0, ↓okSt_I, ↓okSt_R, ↓okSt_N, ↓okSt_s, ↓rtI_s, ↓rtV_n, ↓brP_t, ↓brP_f, ↓sHelp_token_0, ↓sHelp_token_1, ↓rf_0_5, ↓sHelp_token_4, ↓sHelp_token_5, ↓sHelp_token_6, ↓sHelp_token_9, ↓sHelp_token_12, ↓sHelp_token_13, ↓sHelp_token_14, ↓sHelp_token_17, ↓sHelp_token_18, ↓sHelp_token_20, ↓sHelp_token_23, ↓sHelp_token_24, ↓sHelp_token_27, ↓sHelp_token_28, ↓sHelp_token_29, ↓sHelp_token_30, ↓sHelp_token_33, ↓sHelp_token_34, ↓sHelp_token_35, ↓rf_0_6, ↓sHelp_token_38, ↓rf_15_3, ↓sHelp_token_41, ↓sHelp_token_44, ↓sHelp_token_45, ↓sHelp_token_48, ↓sHelp_token_50, ↓sHelp_token_51, ↓sHelp_token_52, ↓sHelp_token_55, ↓rf_15_1, ↓sHelp_token_58, ↓sHelp_token_59, ↓sHelp_token_60, ↓sHelp_token_61, ↓sHelp_token_64, ↓sHelp_token_66, ↓sHelp_token_67, ↓sHelp_token_68, ↓sHelp_token_71, ↓sHelp_token_72, ↓sHelp_token_73, ↓sHelp_token_76, ↓ln_17, List.set_cons_zero, List.set_cons_succ, List.length_cons, List.length_nil, List.contains_cons, List.contains_nil, cat1, brP_d, true_and, and_true, not_false_eq_true, not_true_eq_false, if_true, if_false, Bool.or_false, Bool.false_or, Bool.or_true, Bool.true_or, Bool.false_eq_true, Bool.or_self, false_implies, true_implies, forall_const, and_self, implies_true, true_or, or_true, or_false, false_or, or_self, Classical.not_not, Int.reduceAdd, Int.reduceSub, Int.reduceMul, Int.reduceNeg, Int.reduceToNat, Int.reduceLT, Int.reduceLE, Int.reduceEq, Int.reduceNe, Int.reduceNatCast', Nat.reduceAdd, Nat.reduceSub, Nat.reduceLeDiff, Nat.reduceLT, Nat.reduceEqDiff, Nat.reduceBEq, reduceIte, nx_w, nx_c, up_n, up_s, up_f, ne_eq, Nat.reduceEqDiff, Option.some.injEq, Prod.mk.injEq, exists_eq_left', reduceCtorEq, ob_10, ob_15]
  refine use_p (t_Words_isOf h t 2 hw) ?_
  have key : ∀ b : Int, (b = 1 ∧ (isK h t 2 ∨ (-9 ≤ t ∧ t ≤ -1)) ∨ b = 0 ∧ ¬ (isK h t 2 ∨ (-9 ≤ t ∧ t ≤ -1))) → Wn Z4 mHelp_token SH0 28 [some (.inr (.inr 0)), some (.inl k), some (.inl t), none] [.inl b] h (rtI (qFull ((0 ≤ k ∧ k < h 15 3) ∧ (isK h t 2 ∨ (-9 ≤ t ∧ t ≤ -1))) (4 ≤ h 17 k.toNat) (h 17 k.toNat + 1) (up (up h 18 (k * 4 + h 17 k.toNat).toNat t) 17 k.toNat (h 17 k.toNat + 1)) h)) := by
    intro b hb
    refine go [9999] 400 (k := ?_)
    simp (config := {maxSteps := 1000000}) only [↓pI_c, ↓pR_c, ↓pJ_c, ↓pV_c, ↓popN_0, ↓popN_s, ↓lI_0, ↓lR_0, ↓lJ_0, ↓lI_s, ↓lR_s, ↓lJ_s, ↓okSt_0, ↓okSt_I, ↓okSt_R, ↓okSt_N, ↓okSt_s, ↓rtI_s, ↓rtV_n, ↓brP_t, ↓brP_f, ↓sHelp_token_0, ↓sHelp_token_1, ↓rf_0_5, ↓sHelp_token_4, ↓sHelp_token_5, ↓sHelp_token_6, ↓sHelp_token_9, ↓sHelp_token_12, ↓sHelp_token_13, ↓sHelp_token_14, ↓sHelp_token_17, ↓sHelp_token_18, ↓sHelp_token_20, ↓sHelp_token_23, ↓sHelp_token_24, ↓sHelp_token_27, ↓sHelp_token_28, ↓sHelp_token_29, ↓sHelp_token_30, ↓sHelp_token_33, ↓sHelp_token_34, ↓sHelp_token_35, ↓rf_0_6, ↓sHelp_token_38, ↓rf_15_3, ↓sHelp_token_41, ↓sHelp_token_44, ↓sHelp_token_45, ↓sHelp_token_48, ↓sHelp_token_50, ↓sHelp_token_51, ↓sHelp_token_52, ↓sHelp_token_55, ↓rf_15_1, ↓sHelp_token_58, ↓sHelp_token_59, ↓sHelp_token_60, ↓sHelp_token_61, ↓sHelp_token_64, ↓sHelp_token_66, ↓sHelp_token_67, ↓sHelp_token_68, ↓sHelp_token_71, ↓sHelp_token_72, ↓sHelp_token_73, ↓sHelp_token_76, ↓ln_17, List.set_cons_zero, List.set_cons_succ, List.length_cons, List.length_nil, List.contains_cons, List.contains_nil, cat1, brP_d, true_and, and_true, not_false_eq_true, not_true_eq_false, if_true, if_false, Bool.or_false, Bool.false_or, Bool.or_true, Bool.true_or, Bool.false_eq_true, Bool.or_self, false_implies, true_implies, forall_const, and_self, implies_true, true_or, or_true, or_false, false_or, or_self, Classical.not_not, Int.reduceAdd, Int.reduceSub, Int.reduceMul, Int.reduceNeg, Int.reduceToNat, Int.reduceLT, Int.reduceLE, Int.reduceEq, Int.reduceNe, Int.reduceNatCast', Nat.reduceAdd, Nat.reduceSub, Nat.reduceLeDiff, Nat.reduceLT, Nat.reduceEqDiff, Nat.reduceBEq, reduceIte, nx_w, nx_c, up_n, up_s, up_f, ne_eq, Nat.reduceEqDiff, Option.some.injEq, Prod.mk.injEq, exists_eq_left', reduceCtorEq, ob_10, ob_15]
    constructor
    · intro h1
      grind [qFull, isK]
    · intro h1
      constructor
      · intro h2
        grind [qFull, isK]
      · intro h2
        constructor
        · intro h3
          refine ⟨by omega, fun h4 => ?_, fun h4 => ?_⟩
          · refine trI_use (t_Rules_addToken _ k t (by omega) ⟨hl.1, h4⟩) ?_
            rintro _ _ ⟨rfl, rfl⟩
            grind [qFull, isK]
          · grind [qFull, isK]
        · intro h3
          grind [qFull, isK]
  constructor
  · intro h1
    exact key 1 (by grind [b2, isK])
  · intro h1
    constructor
    · intro h2
      exact key 0 (by grind [b2, isK])
    · intro h2
      constructor
      · intro h3
        exact key 0 (by grind [b2, isK])
      · intro h3
        exact key 1 (by grind [b2, isK])

set_option maxRecDepth 100000 in
set_option maxHeartbeats 4000000 in
theorem t_Model_token (h : HP) (k t : Int) (hw : 0 ≤ h 43 1 ∧ h 43 1 ≤ 60) (hr : 0 ≤ h 43 10 ∧ h 43 10 ≤ 40) (hl : 0 ≤ h 53 k.toNat ∧ h 53 k.toNat ≤ 4) : trI mModel_token [.inr (.inr 43), .inl k, .inl t] SH0 h (qFull ((0 ≤ k ∧ k < h 43 10) ∧ (isM h t 2 ∨ (-9 ≤ t ∧ t ≤ -1))) (4 ≤ h 53 k.toNat) (h 53 k.toNat + 1) (up (up (up h 43 0 0) 52 (4 * k + h 53 k.toNat).toNat t) 53 k.toNat (h 53 k.toNat + 1)) (up h 43 0 0)) := by
  have hd := Classical.em ((0 ≤ k ∧ k < h 43 10) ∧ (isM h t 2 ∨ (-9 ≤ t ∧ t ≤ -1)))
  have key : (0 ≤ k ∧ k < h 43 10) ∧ (isM h t 2 ∨ (-9 ≤ t ∧ t ≤ -1)) → Wn Z4 mModel_token SH0 41 [some (.inr (.inr 43)), some (.inl k), some (.inl t)] [] (up h 43 0 0) (rtI (qFull ((0 ≤ k ∧ k < h 43 10) ∧ (isM h t 2 ∨ (-9 ≤ t ∧ t ≤ -1))) (4 ≤ h 53 k.toNat) (h 53 k.toNat + 1) (up (up (up h 43 0 0) 52 (4 * k + h 53 k.toNat).toNat t) 53 k.toNat (h 53 k.toNat + 1)) (up h 43 0 0))) := by
    intro hb
    refine go [9999] 400 (k := ?_)
    simp (config := {maxSteps := 1000000}) only [↓pI_c, ↓pR_c, ↓pJ_c, ↓pV_c, ↓popN_0, ↓popN_s, ↓lI_0, ↓lR_0, ↓lJ_0, ↓lI_s, ↓lR_s, ↓lJ_s, ↓okSt_0, ↓okSt_I, ↓okSt_R, ↓okSt_N, ↓okSt_s, ↓rtI_s, ↓rtV_n, ↓brP_t, ↓brP_f, ↓sModel_token_0, ↓sModel_token_1, ↓sModel_token_2, ↓rf_43_0, ↓sModel_token_5, ↓sModel_token_6, ↓sModel_token_7, ↓sModel_token_8, ↓rf_43_10, ↓sModel_token_11, ↓sModel_token_12, ↓sModel_token_13, ↓sModel_token_16, ↓sModel_token_19, ↓sModel_token_20, ↓sModel_token_22, ↓sModel_token_23, ↓sModel_token_26, ↓sModel_token_29, ↓sModel_token_30, ↓sModel_token_31, ↓sModel_token_32, ↓sModel_token_35, ↓sModel_token_38, ↓sModel_token_40, ↓sModel_token_41, ↓sModel_token_42, ↓rf_43_13, ↓sModel_token_45, ↓sModel_token_46, ↓sModel_token_47, ↓sModel_token_48, ↓sModel_token_51, ↓sModel_token_53, ↓sModel_token_54, ↓sModel_token_55, ↓rf_43_12, ↓sModel_token_58, ↓sModel_token_59, ↓sModel_token_60, ↓sModel_token_61, ↓sModel_token_62, ↓sModel_token_65, ↓sModel_token_66, ↓sModel_token_67, ↓sModel_token_68, ↓sModel_token_69, ↓sModel_token_70, ↓sModel_token_71, ↓sModel_token_74, ↓sModel_token_75, ↓sModel_token_76, ↓sModel_token_77, ↓sModel_token_78, ↓sModel_token_79, ↓sModel_token_80, ↓sModel_token_81, ↓sModel_token_84, ↓sModel_token_85, ↓sModel_token_86, ↓ln_52, ↓ln_53, List.set_cons_zero, List.set_cons_succ, List.length_cons, List.length_nil, List.contains_cons, List.contains_nil, cat1, brP_d, true_and, and_true, not_false_eq_true, not_true_eq_false, if_true, if_false, Bool.or_false, Bool.false_or, Bool.or_true, Bool.true_or, Bool.false_eq_true, Bool.or_self, false_implies, true_implies, forall_const, and_self, implies_true, true_or, or_true, or_false, false_or, or_self, Classical.not_not, Int.reduceAdd, Int.reduceSub, Int.reduceMul, Int.reduceNeg, Int.reduceToNat, Int.reduceLT, Int.reduceLE, Int.reduceEq, Int.reduceNe, Int.reduceNatCast', Nat.reduceAdd, Nat.reduceSub, Nat.reduceLeDiff, Nat.reduceLT, Nat.reduceEqDiff, Nat.reduceBEq, reduceIte, nx_w, nx_c, up_n, up_s, up_f, ne_eq, Nat.reduceEqDiff, Option.some.injEq, Prod.mk.injEq, exists_eq_left', reduceCtorEq, ob_43]
    refine ⟨by omega, fun h4 => ?_, fun h4 => ?_⟩
    · rw [wr_id (x := 4 * k) (by omega) (by omega), wr_id (x := 4 * k + h 53 k.toNat) (by omega) (by omega), wr_id (x := h 53 k.toNat + 1) (by omega) (by omega)]
      grind [qFull]
    · grind [qFull]
  refine startI [some (.inr (.inr 43)), some (.inl k), some (.inl t)] mModel_token_c (go [41] 400 (k := ?_))
  simp (config := {maxSteps := 1000000}) only [↓pI_c, ↓pR_c, ↓pJ_c, ↓pV_c, ↓popN_0, ↓popN_s, ↓lI_0, ↓lR_0, ↓lJ_0, ↓lI_s, ↓lR_s, ↓lJ_s, ↓okSt_0, ↓okSt_I, ↓okSt_R, ↓okSt_N, ↓okSt_s, ↓rtI_s, ↓rtV_n, ↓brP_t, ↓brP_f, ↓sModel_token_0, ↓sModel_token_1, ↓sModel_token_2, ↓rf_43_0, ↓sModel_token_5, ↓sModel_token_6, ↓sModel_token_7, ↓sModel_token_8, ↓rf_43_10, ↓sModel_token_11, ↓sModel_token_12, ↓sModel_token_13, ↓sModel_token_16, ↓sModel_token_19, ↓sModel_token_20, ↓sModel_token_22, ↓sModel_token_23, ↓sModel_token_26, ↓sModel_token_29, ↓sModel_token_30, ↓sModel_token_31, ↓sModel_token_32, ↓sModel_token_35, ↓sModel_token_38, ↓sModel_token_40, ↓sModel_token_41, ↓sModel_token_42, ↓rf_43_13, ↓sModel_token_45, ↓sModel_token_46, ↓sModel_token_47, ↓sModel_token_48, ↓sModel_token_51, ↓sModel_token_53, ↓sModel_token_54, ↓sModel_token_55, ↓rf_43_12, ↓sModel_token_58, ↓sModel_token_59, ↓sModel_token_60, ↓sModel_token_61, ↓sModel_token_62, ↓sModel_token_65, ↓sModel_token_66, ↓sModel_token_67, ↓sModel_token_68, ↓sModel_token_69, ↓sModel_token_70, ↓sModel_token_71, ↓sModel_token_74, ↓sModel_token_75, ↓sModel_token_76, ↓sModel_token_77, ↓sModel_token_78, ↓sModel_token_79, ↓sModel_token_80, ↓sModel_token_81, ↓sModel_token_84, ↓sModel_token_85, ↓sModel_token_86, ↓ln_52, ↓ln_53, List.set_cons_zero, List.set_cons_succ, List.length_cons, List.length_nil, List.contains_cons, List.contains_nil, cat1, brP_d, true_and, and_true, not_false_eq_true, not_true_eq_false, if_true, if_false, Bool.or_false, Bool.false_or, Bool.or_true, Bool.true_or, Bool.false_eq_true, Bool.or_self, false_implies, true_implies, forall_const, and_self, implies_true, true_or, or_true, or_false, false_or, or_self, Classical.not_not, Int.reduceAdd, Int.reduceSub, Int.reduceMul, Int.reduceNeg, Int.reduceToNat, Int.reduceLT, Int.reduceLE, Int.reduceEq, Int.reduceNe, Int.reduceNatCast', Nat.reduceAdd, Nat.reduceSub, Nat.reduceLeDiff, Nat.reduceLT, Nat.reduceEqDiff, Nat.reduceBEq, reduceIte, nx_w, nx_c, up_n, up_s, up_f, ne_eq, Nat.reduceEqDiff, Option.some.injEq, Prod.mk.injEq, exists_eq_left', reduceCtorEq, ob_43]
  rw [wr_id (x := h 43 10 - 1) (by omega) (by omega)]
  refine use_p (t_Model_in _ k 0 (h 43 10 - 1)) ?_
  constructor
  · intro h1
    grind [b2, qFull]
  · intro h1
    refine use_p (t_Model_in _ t (-9) (-1)) ?_
    constructor
    · intro h2
      exact key (by grind [b2])
    · intro h2
      refine use_p (t_Model_is _ t 2 (by simpa only [up_f, ne_eq, Nat.reduceEqDiff, not_false_eq_true] using hw)) ?_
      simp only [up_n, up_f, ne_eq, Nat.reduceEqDiff, not_false_eq_true]
      constructor
      · intro h3
        exact key (by grind [b2, isM])
      · intro h3
        grind [b2, qFull, isM]
-- setting, near
def okSet (w v : Int) : Prop := 0 ≤ w ∧ w < 9 ∧ setLo w.toNat ≤ v ∧ v ≤ setHi w.toNat
set_option maxRecDepth 100000 in
set_option maxHeartbeats 4000000 in
theorem t_Help_setting (h : HP) (w v : Int) (hs : ∀ j : Nat, j < 9 → h 1002 j = setLo j ∧ h 1003 j = setHi j) : trI mHelp_setting [.inr (.inr 0), .inl w, .inl v] SH0 h (qSet (okSet w v) (h 4 w.toNat) (up h 4 w.toNat v) h) := by
  refine startI [some (.inr (.inr 0)), some (.inl w), some (.inl v), none] mHelp_setting_c (go [9999] 400 (k := ?_))
  simp (config := {maxSteps := 1000000}) only [↓pI_c, ↓pR_c, ↓pJ_c, ↓pV_c, ↓popN_0, ↓popN_s, ↓lI_0, ↓lR_0, ↓lJ_0, ↓lI_s, ↓lR_s, ↓lJ_s, ↓okSt_0, ↓okSt_I, ↓okSt_R, ↓okSt_N, ↓okSt_s, ↓rtI_s, ↓rtV_n, ↓brP_t, ↓brP_f, ↓sHelp_setting_0, ↓sHelp_setting_1, ↓sHelp_setting_4, ↓sHelp_setting_5, ↓sHelp_setting_8, ↓sHelp_setting_9, ↓sHelp_setting_12, ↓sHelp_setting_14, ↓sHelp_setting_15, ↓sHelp_setting_16, ↓sHelp_setting_19, ↓sHelp_setting_20, ↓sHelp_setting_21, ↓sHelp_setting_24, ↓sHelp_setting_25, ↓sHelp_setting_28, ↓sHelp_setting_29, ↓sHelp_setting_30, ↓sHelp_setting_33, ↓sHelp_setting_35, ↓sHelp_setting_36, ↓sHelp_setting_37, ↓rf_0_3, ↓sHelp_setting_40, ↓rf_3_0, ↓sHelp_setting_43, ↓sHelp_setting_44, ↓sHelp_setting_45, ↓sHelp_setting_46, ↓sHelp_setting_47, ↓sHelp_setting_50, ↓sHelp_setting_53, ↓sHelp_setting_54, ↓sHelp_setting_55, ↓sHelp_setting_56, ↓sHelp_setting_57, ↓ln_4, ↓ln_1001, ↓ln_1002, ↓ln_1003, List.set_cons_zero, List.set_cons_succ, List.length_cons, List.length_nil, List.contains_cons, List.contains_nil, cat1, brP_d, true_and, and_true, not_false_eq_true, not_true_eq_false, if_true, if_false, Bool.or_false, Bool.false_or, Bool.or_true, Bool.true_or, Bool.false_eq_true, Bool.or_self, false_implies, true_implies, forall_const, and_self, implies_true, true_or, or_true, or_false, false_or, or_self, Classical.not_not, Int.reduceAdd, Int.reduceSub, Int.reduceMul, Int.reduceNeg, Int.reduceToNat, Int.reduceLT, Int.reduceLE, Int.reduceEq, Int.reduceNe, Int.reduceNatCast', Nat.reduceAdd, Nat.reduceSub, Nat.reduceLeDiff, Nat.reduceLT, Nat.reduceEqDiff, Nat.reduceBEq, reduceIte, nx_w, nx_c, up_n, up_s, up_f, ne_eq, Nat.reduceEqDiff, Option.some.injEq, Prod.mk.injEq, exists_eq_left', reduceCtorEq]
  by_cases hw : 0 ≤ w ∧ w < 9
  · obtain ⟨e1, e2⟩ := hs w.toNat (by omega)
    simp only [e1, e2]
    by_cases hv : setLo w.toNat ≤ v ∧ v ≤ setHi w.toNat
    · have ho : okSet w v := ⟨hw.1, hw.2, hv.1, hv.2⟩
      grind [qSet]
    · have ho : ¬ okSet w v := fun z => hv ⟨z.2.2.1, z.2.2.2⟩
      grind [qSet]
  · have ho : ¬ okSet w v := fun z => hw ⟨z.1, z.2.1⟩
    grind [qSet]
theorem set9 (w v : Int) : okSet w v ↔ (((0 ≤ w ∧ w ≤ 4) ∨ w = 8) ∧ 1 ≤ v ∧ v ≤ 9) ∨ (w = 5 ∧ 0 ≤ v ∧ v ≤ 60) ∨ ((w = 6 ∨ w = 7) ∧ 0 ≤ v ∧ v ≤ 1) := by
  unfold okSet
  constructor
  · rintro ⟨h1, h2, h3, h4⟩
    rcases (show w = 0 ∨ w = 1 ∨ w = 2 ∨ w = 3 ∨ w = 4 ∨ w = 5 ∨ w = 6 ∨ w = 7 ∨ w = 8 by omega) with rfl | rfl | rfl | rfl | rfl | rfl | rfl | rfl | rfl <;> simp [setLo, setHi] at h3 h4 ⊢ <;> omega
  · rintro (⟨h1, h2⟩ | ⟨rfl, h2⟩ | ⟨rfl | rfl, h2⟩)
    · rcases (show w = 0 ∨ w = 1 ∨ w = 2 ∨ w = 3 ∨ w = 4 ∨ w = 8 by omega) with rfl | rfl | rfl | rfl | rfl | rfl <;> simp [setLo, setHi] <;> omega
    · simp [setLo, setHi]; omega
    · simp [setLo, setHi]; omega
    · simp [setLo, setHi]; omega
set_option maxRecDepth 100000 in
set_option maxHeartbeats 4000000 in
theorem t_Model_setting (h : HP) (w v : Int) : trI mModel_setting [.inr (.inr 43), .inl w, .inl v] SH0 h (qSet (okSet w v) (h 54 w.toNat) (up (up h 43 0 0) 54 w.toNat v) (up h 43 0 0)) := by
  have key : ∀ b : Int, (b = 1 ∧ okSet w v ∨ b = 0 ∧ ¬ okSet w v) → Wn Z4 mModel_setting SH0 71 [some (.inr (.inr 43)), some (.inl w), some (.inl v), none, none] [.inl b] (up h 43 0 0) (rtI (qSet (okSet w v) (h 54 w.toNat) (up (up h 43 0 0) 54 w.toNat v) (up h 43 0 0))) := by
    intro b hb
    refine go [9999] 400 (k := ?_)
    simp (config := {maxSteps := 1000000}) only [↓pI_c, ↓pR_c, ↓pJ_c, ↓pV_c, ↓popN_0, ↓popN_s, ↓lI_0, ↓lR_0, ↓lJ_0, ↓lI_s, ↓lR_s, ↓lJ_s, ↓okSt_0, ↓okSt_I, ↓okSt_R, ↓okSt_N, ↓okSt_s, ↓rtI_s, ↓rtV_n, ↓brP_t, ↓brP_f, ↓sModel_setting_0, ↓sModel_setting_1, ↓sModel_setting_2, ↓rf_43_0, ↓sModel_setting_5, ↓sModel_setting_6, ↓sModel_setting_7, ↓sModel_setting_8, ↓sModel_setting_11, ↓sModel_setting_14, ↓sModel_setting_15, ↓sModel_setting_17, ↓sModel_setting_20, ↓sModel_setting_21, ↓sModel_setting_22, ↓sModel_setting_24, ↓sModel_setting_27, ↓sModel_setting_30, ↓sModel_setting_31, ↓sModel_setting_32, ↓sModel_setting_35, ↓sModel_setting_36, ↓sModel_setting_37, ↓sModel_setting_39, ↓sModel_setting_42, ↓sModel_setting_45, ↓sModel_setting_46, ↓sModel_setting_48, ↓sModel_setting_51, ↓sModel_setting_52, ↓sModel_setting_54, ↓sModel_setting_57, ↓sModel_setting_58, ↓sModel_setting_59, ↓sModel_setting_60, ↓sModel_setting_63, ↓sModel_setting_66, ↓sModel_setting_67, ↓sModel_setting_70, ↓sModel_setting_71, ↓sModel_setting_72, ↓sModel_setting_73, ↓sModel_setting_76, ↓sModel_setting_78, ↓sModel_setting_79, ↓sModel_setting_80, ↓rf_43_14, ↓sModel_setting_83, ↓sModel_setting_84, ↓sModel_setting_85, ↓sModel_setting_87, ↓sModel_setting_88, ↓sModel_setting_91, ↓sModel_setting_92, ↓sModel_setting_93, ↓sModel_setting_94, ↓sModel_setting_96, ↓ln_54, List.set_cons_zero, List.set_cons_succ, List.length_cons, List.length_nil, List.contains_cons, List.contains_nil, cat1, brP_d, true_and, and_true, not_false_eq_true, not_true_eq_false, if_true, if_false, Bool.or_false, Bool.false_or, Bool.or_true, Bool.true_or, Bool.false_eq_true, Bool.or_self, false_implies, true_implies, forall_const, and_self, implies_true, true_or, or_true, or_false, false_or, or_self, Classical.not_not, Int.reduceAdd, Int.reduceSub, Int.reduceMul, Int.reduceNeg, Int.reduceToNat, Int.reduceLT, Int.reduceLE, Int.reduceEq, Int.reduceNe, Int.reduceNatCast', Nat.reduceAdd, Nat.reduceSub, Nat.reduceLeDiff, Nat.reduceLT, Nat.reduceEqDiff, Nat.reduceBEq, reduceIte, nx_w, nx_c, up_n, up_s, up_f, ne_eq, Nat.reduceEqDiff, Option.some.injEq, Prod.mk.injEq, exists_eq_left', reduceCtorEq]
    grind [qSet, okSet]
  have hw := set9 w v
  refine startI [some (.inr (.inr 43)), some (.inl w), some (.inl v), none, none] mModel_setting_c (go [71] 400 (k := ?_))
  simp (config := {maxSteps := 1000000}) only [↓pI_c, ↓pR_c, ↓pJ_c, ↓pV_c, ↓popN_0, ↓popN_s, ↓lI_0, ↓lR_0, ↓lJ_0, ↓lI_s, ↓lR_s, ↓lJ_s, ↓okSt_0, ↓okSt_I, ↓okSt_R, ↓okSt_N, ↓okSt_s, ↓rtI_s, ↓rtV_n, ↓brP_t, ↓brP_f, ↓sModel_setting_0, ↓sModel_setting_1, ↓sModel_setting_2, ↓rf_43_0, ↓sModel_setting_5, ↓sModel_setting_6, ↓sModel_setting_7, ↓sModel_setting_8, ↓sModel_setting_11, ↓sModel_setting_14, ↓sModel_setting_15, ↓sModel_setting_17, ↓sModel_setting_20, ↓sModel_setting_21, ↓sModel_setting_22, ↓sModel_setting_24, ↓sModel_setting_27, ↓sModel_setting_30, ↓sModel_setting_31, ↓sModel_setting_32, ↓sModel_setting_35, ↓sModel_setting_36, ↓sModel_setting_37, ↓sModel_setting_39, ↓sModel_setting_42, ↓sModel_setting_45, ↓sModel_setting_46, ↓sModel_setting_48, ↓sModel_setting_51, ↓sModel_setting_52, ↓sModel_setting_54, ↓sModel_setting_57, ↓sModel_setting_58, ↓sModel_setting_59, ↓sModel_setting_60, ↓sModel_setting_63, ↓sModel_setting_66, ↓sModel_setting_67, ↓sModel_setting_70, ↓sModel_setting_71, ↓sModel_setting_72, ↓sModel_setting_73, ↓sModel_setting_76, ↓sModel_setting_78, ↓sModel_setting_79, ↓sModel_setting_80, ↓rf_43_14, ↓sModel_setting_83, ↓sModel_setting_84, ↓sModel_setting_85, ↓sModel_setting_87, ↓sModel_setting_88, ↓sModel_setting_91, ↓sModel_setting_92, ↓sModel_setting_93, ↓sModel_setting_94, ↓sModel_setting_96, ↓ln_54, List.set_cons_zero, List.set_cons_succ, List.length_cons, List.length_nil, List.contains_cons, List.contains_nil, cat1, brP_d, true_and, and_true, not_false_eq_true, not_true_eq_false, if_true, if_false, Bool.or_false, Bool.false_or, Bool.or_true, Bool.true_or, Bool.false_eq_true, Bool.or_self, false_implies, true_implies, forall_const, and_self, implies_true, true_or, or_true, or_false, false_or, or_self, Classical.not_not, Int.reduceAdd, Int.reduceSub, Int.reduceMul, Int.reduceNeg, Int.reduceToNat, Int.reduceLT, Int.reduceLE, Int.reduceEq, Int.reduceNe, Int.reduceNatCast', Nat.reduceAdd, Nat.reduceSub, Nat.reduceLeDiff, Nat.reduceLT, Nat.reduceEqDiff, Nat.reduceBEq, reduceIte, nx_w, nx_c, up_n, up_s, up_f, ne_eq, Nat.reduceEqDiff, Option.some.injEq, Prod.mk.injEq, exists_eq_left', reduceCtorEq]
  refine use_p (t_Model_in _ w 0 4) ?_
  constructor
  · intro h1
    refine use_p (t_Model_in _ v 1 9) ?_
    exact key _ (by grind [b2])
  · intro h1
    constructor
    · intro h2
      constructor
      · intro h3
        constructor
        · intro h4
          refine use_p (t_Model_in _ v 0 1) ?_
          constructor
          · intro h5
            exact key _ (by grind [b2])
          · intro h5
            exact key _ (by grind [b2])
        · intro h4
          constructor
          · intro h5
            exact key _ (by grind [b2])
          · intro h5
            refine use_p (t_Model_in _ v 0 1) ?_
            constructor
            · intro h5
              exact key _ (by grind [b2])
            · intro h5
              exact key _ (by grind [b2])
      · intro h3
        refine use_p (t_Model_in _ v 0 60) ?_
        exact key _ (by grind [b2])
    · intro h2
      refine use_p (t_Model_in _ v 1 9) ?_
      exact key _ (by grind [b2])
def okNear (a b : Int) : Prop := 0 ≤ a ∧ a ≤ 25 ∧ 0 ≤ b ∧ b ≤ 25 ∧ ¬ a = b
set_option maxRecDepth 100000 in
set_option maxHeartbeats 4000000 in
theorem t_Sett_makeNear (h : HP) (a b : Int) (hn : okNear a b) : trI mSett_makeNear [.inr (.inr 3), .inl a, .inl b] SH0 h (fun r h' => h' = up (up h 5 (26 * a + b).toNat 1) 5 (26 * b + a).toNat 1 ∧ r = b2 (h 5 (26 * a + b).toNat = 0)) := by
  unfold okNear at hn
  refine startI [some (.inr (.inr 3)), some (.inl a), some (.inl b), none] mSett_makeNear_c (go [9999] 400 (k := ?_))
  simp (config := {maxSteps := 1000000}) only [↓pI_c, ↓pR_c, ↓pJ_c, ↓pV_c, ↓popN_0, ↓popN_s, ↓lI_0, ↓lR_0, ↓lJ_0, ↓lI_s, ↓lR_s, ↓lJ_s, ↓okSt_0, ↓okSt_I, ↓okSt_R, ↓okSt_N, ↓okSt_s, ↓rtI_s, ↓rtV_n, ↓brP_t, ↓brP_f, ↓sSett_makeNear_0, ↓sSett_makeNear_1, ↓rf_3_1, ↓sSett_makeNear_4, ↓sSett_makeNear_5, ↓sSett_makeNear_7, ↓sSett_makeNear_8, ↓sSett_makeNear_9, ↓sSett_makeNear_10, ↓sSett_makeNear_11, ↓sSett_makeNear_14, ↓sSett_makeNear_15, ↓sSett_makeNear_18, ↓sSett_makeNear_19, ↓sSett_makeNear_20, ↓sSett_makeNear_21, ↓sSett_makeNear_24, ↓sSett_makeNear_25, ↓sSett_makeNear_27, ↓sSett_makeNear_28, ↓sSett_makeNear_29, ↓sSett_makeNear_30, ↓sSett_makeNear_31, ↓sSett_makeNear_32, ↓sSett_makeNear_33, ↓sSett_makeNear_36, ↓sSett_makeNear_37, ↓sSett_makeNear_39, ↓sSett_makeNear_40, ↓sSett_makeNear_41, ↓sSett_makeNear_42, ↓sSett_makeNear_43, ↓sSett_makeNear_44, ↓sSett_makeNear_45, ↓ln_5, List.set_cons_zero, List.set_cons_succ, List.length_cons, List.length_nil, List.contains_cons, List.contains_nil, cat1, brP_d, true_and, and_true, not_false_eq_true, not_true_eq_false, if_true, if_false, Bool.or_false, Bool.false_or, Bool.or_true, Bool.true_or, Bool.false_eq_true, Bool.or_self, false_implies, true_implies, forall_const, and_self, implies_true, true_or, or_true, or_false, false_or, or_self, Classical.not_not, Int.reduceAdd, Int.reduceSub, Int.reduceMul, Int.reduceNeg, Int.reduceToNat, Int.reduceLT, Int.reduceLE, Int.reduceEq, Int.reduceNe, Int.reduceNatCast', Nat.reduceAdd, Nat.reduceSub, Nat.reduceLeDiff, Nat.reduceLT, Nat.reduceEqDiff, Nat.reduceBEq, reduceIte, nx_w, nx_c, up_n, up_s, up_f, ne_eq, Nat.reduceEqDiff, Option.some.injEq, Prod.mk.injEq, exists_eq_left', reduceCtorEq]
  rw [wr_id (x := a * 26) (by omega) (by omega), wr_id (x := b * 26) (by omega) (by omega), wr_id (x := a * 26 + b) (by omega) (by omega), wr_id (x := b * 26 + a) (by omega) (by omega), Int.mul_comm a 26, Int.mul_comm b 26]
  grind [b2]
set_option maxRecDepth 100000 in
set_option maxHeartbeats 4000000 in
theorem t_Help_near (h : HP) (a b : Int) : trI mHelp_near [.inr (.inr 0), .inl a, .inl b] SH0 h (qSet (okNear a b) (b2 (h 5 (26 * a + b).toNat = 0)) (up (up h 5 (26 * a + b).toNat 1) 5 (26 * b + a).toNat 1) h) := by
  refine startI [some (.inr (.inr 0)), some (.inl a), some (.inl b)] mHelp_near_c (go [28] 400 (k := ?_))
  simp (config := {maxSteps := 1000000}) only [↓pI_c, ↓pR_c, ↓pJ_c, ↓pV_c, ↓popN_0, ↓popN_s, ↓lI_0, ↓lR_0, ↓lJ_0, ↓lI_s, ↓lR_s, ↓lJ_s, ↓okSt_0, ↓okSt_I, ↓okSt_R, ↓okSt_N, ↓okSt_s, ↓rtI_s, ↓rtV_n, ↓brP_t, ↓brP_f, ↓sHelp_near_0, ↓sHelp_near_1, ↓sHelp_near_4, ↓sHelp_near_5, ↓sHelp_near_7, ↓sHelp_near_10, ↓sHelp_near_11, ↓sHelp_near_14, ↓sHelp_near_15, ↓sHelp_near_17, ↓sHelp_near_20, ↓sHelp_near_21, ↓sHelp_near_22, ↓sHelp_near_25, ↓sHelp_near_27, ↓sHelp_near_28, ↓sHelp_near_29, ↓rf_0_3, ↓sHelp_near_32, ↓sHelp_near_33, ↓sHelp_near_34, ↓sHelp_near_37, ↓sHelp_near_40, ↓sHelp_near_41, ↓sHelp_near_44, ↓sHelp_near_45, List.set_cons_zero, List.set_cons_succ, List.length_cons, List.length_nil, List.contains_cons, List.contains_nil, cat1, brP_d, true_and, and_true, not_false_eq_true, not_true_eq_false, if_true, if_false, Bool.or_false, Bool.false_or, Bool.or_true, Bool.true_or, Bool.false_eq_true, Bool.or_self, false_implies, true_implies, forall_const, and_self, implies_true, true_or, or_true, or_false, false_or, or_self, Classical.not_not, Int.reduceAdd, Int.reduceSub, Int.reduceMul, Int.reduceNeg, Int.reduceToNat, Int.reduceLT, Int.reduceLE, Int.reduceEq, Int.reduceNe, Int.reduceNatCast', Nat.reduceAdd, Nat.reduceSub, Nat.reduceLeDiff, Nat.reduceLT, Nat.reduceEqDiff, Nat.reduceBEq, reduceIte, nx_w, nx_c, up_n, up_s, up_f, ne_eq, Nat.reduceEqDiff, Option.some.injEq, Prod.mk.injEq, exists_eq_left', reduceCtorEq, ob_3]
  have key : okNear a b → Wn Z4 mHelp_near SH0 28 [some (.inr (.inr 0)), some (.inl a), some (.inl b)] [] h (rtI (qSet (okNear a b) (b2 (h 5 (26 * a + b).toNat = 0)) (up (up h 5 (26 * a + b).toNat 1) 5 (26 * b + a).toNat 1) h)) := by
    intro hn
    refine go [9999] 400 (k := ?_)
    simp (config := {maxSteps := 1000000}) only [↓pI_c, ↓pR_c, ↓pJ_c, ↓pV_c, ↓popN_0, ↓popN_s, ↓lI_0, ↓lR_0, ↓lJ_0, ↓lI_s, ↓lR_s, ↓lJ_s, ↓okSt_0, ↓okSt_I, ↓okSt_R, ↓okSt_N, ↓okSt_s, ↓rtI_s, ↓rtV_n, ↓brP_t, ↓brP_f, ↓sHelp_near_0, ↓sHelp_near_1, ↓sHelp_near_4, ↓sHelp_near_5, ↓sHelp_near_7, ↓sHelp_near_10, ↓sHelp_near_11, ↓sHelp_near_14, ↓sHelp_near_15, ↓sHelp_near_17, ↓sHelp_near_20, ↓sHelp_near_21, ↓sHelp_near_22, ↓sHelp_near_25, ↓sHelp_near_27, ↓sHelp_near_28, ↓sHelp_near_29, ↓rf_0_3, ↓sHelp_near_32, ↓sHelp_near_33, ↓sHelp_near_34, ↓sHelp_near_37, ↓sHelp_near_40, ↓sHelp_near_41, ↓sHelp_near_44, ↓sHelp_near_45, List.set_cons_zero, List.set_cons_succ, List.length_cons, List.length_nil, List.contains_cons, List.contains_nil, cat1, brP_d, true_and, and_true, not_false_eq_true, not_true_eq_false, if_true, if_false, Bool.or_false, Bool.false_or, Bool.or_true, Bool.true_or, Bool.false_eq_true, Bool.or_self, false_implies, true_implies, forall_const, and_self, implies_true, true_or, or_true, or_false, false_or, or_self, Classical.not_not, Int.reduceAdd, Int.reduceSub, Int.reduceMul, Int.reduceNeg, Int.reduceToNat, Int.reduceLT, Int.reduceLE, Int.reduceEq, Int.reduceNe, Int.reduceNatCast', Nat.reduceAdd, Nat.reduceSub, Nat.reduceLeDiff, Nat.reduceLT, Nat.reduceEqDiff, Nat.reduceBEq, reduceIte, nx_w, nx_c, up_n, up_s, up_f, ne_eq, Nat.reduceEqDiff, Option.some.injEq, Prod.mk.injEq, exists_eq_left', reduceCtorEq, ob_3]
    refine trI_use (t_Sett_makeNear _ a b hn) ?_
    intro r h' e
    grind [b2, qSet]
  grind [qSet, okNear]
set_option maxRecDepth 100000 in
set_option maxHeartbeats 4000000 in
theorem t_Model_near (h : HP) (a b : Int) : trI mModel_near [.inr (.inr 43), .inl a, .inl b] SH0 h (qSet (okNear a b) (b2 (h 55 (26 * a + b).toNat = 0)) (up (up (up h 43 0 0) 55 (26 * a + b).toNat 1) 55 (26 * b + a).toNat 1) (up h 43 0 0)) := by
  have key : okNear a b → Wn Z4 mModel_near SH0 33 [some (.inr (.inr 43)), some (.inl a), some (.inl b), none] [] (up h 43 0 0) (rtI (qSet (okNear a b) (b2 (h 55 (26 * a + b).toNat = 0)) (up (up (up h 43 0 0) 55 (26 * a + b).toNat 1) 55 (26 * b + a).toNat 1) (up h 43 0 0))) := by
    intro hn
    have hn' := hn
    unfold okNear at hn
    refine go [9999] 400 (k := ?_)
    simp (config := {maxSteps := 1000000}) only [↓pI_c, ↓pR_c, ↓pJ_c, ↓pV_c, ↓popN_0, ↓popN_s, ↓lI_0, ↓lR_0, ↓lJ_0, ↓lI_s, ↓lR_s, ↓lJ_s, ↓okSt_0, ↓okSt_I, ↓okSt_R, ↓okSt_N, ↓okSt_s, ↓rtI_s, ↓rtV_n, ↓brP_t, ↓brP_f, ↓sModel_near_0, ↓sModel_near_1, ↓sModel_near_2, ↓rf_43_0, ↓sModel_near_5, ↓sModel_near_6, ↓sModel_near_7, ↓sModel_near_9, ↓sModel_near_12, ↓sModel_near_15, ↓sModel_near_16, ↓sModel_near_17, ↓sModel_near_19, ↓sModel_near_22, ↓sModel_near_25, ↓sModel_near_26, ↓sModel_near_27, ↓sModel_near_30, ↓sModel_near_32, ↓sModel_near_33, ↓sModel_near_34, ↓rf_43_15, ↓sModel_near_37, ↓sModel_near_39, ↓sModel_near_40, ↓sModel_near_41, ↓sModel_near_42, ↓sModel_near_43, ↓sModel_near_44, ↓sModel_near_47, ↓sModel_near_48, ↓sModel_near_51, ↓sModel_near_52, ↓sModel_near_53, ↓sModel_near_54, ↓sModel_near_57, ↓sModel_near_59, ↓sModel_near_60, ↓sModel_near_61, ↓sModel_near_62, ↓sModel_near_63, ↓sModel_near_64, ↓sModel_near_65, ↓sModel_near_66, ↓sModel_near_69, ↓sModel_near_71, ↓sModel_near_72, ↓sModel_near_73, ↓sModel_near_74, ↓sModel_near_75, ↓sModel_near_76, ↓sModel_near_77, ↓sModel_near_78, ↓ln_55, List.set_cons_zero, List.set_cons_succ, List.length_cons, List.length_nil, List.contains_cons, List.contains_nil, cat1, brP_d, true_and, and_true, not_false_eq_true, not_true_eq_false, if_true, if_false, Bool.or_false, Bool.false_or, Bool.or_true, Bool.true_or, Bool.false_eq_true, Bool.or_self, false_implies, true_implies, forall_const, and_self, implies_true, true_or, or_true, or_false, false_or, or_self, Classical.not_not, Int.reduceAdd, Int.reduceSub, Int.reduceMul, Int.reduceNeg, Int.reduceToNat, Int.reduceLT, Int.reduceLE, Int.reduceEq, Int.reduceNe, Int.reduceNatCast', Nat.reduceAdd, Nat.reduceSub, Nat.reduceLeDiff, Nat.reduceLT, Nat.reduceEqDiff, Nat.reduceBEq, reduceIte, nx_w, nx_c, up_n, up_s, up_f, ne_eq, Nat.reduceEqDiff, Option.some.injEq, Prod.mk.injEq, exists_eq_left', reduceCtorEq]
    rw [wr_id (x := 26 * a) (by omega) (by omega), wr_id (x := 26 * b) (by omega) (by omega), wr_id (x := 26 * a + b) (by omega) (by omega), wr_id (x := 26 * b + a) (by omega) (by omega)]
    grind [b2, qSet]
  refine startI [some (.inr (.inr 43)), some (.inl a), some (.inl b), none] mModel_near_c (go [33] 400 (k := ?_))
  simp (config := {maxSteps := 1000000}) only [↓pI_c, ↓pR_c, ↓pJ_c, ↓pV_c, ↓popN_0, ↓popN_s, ↓lI_0, ↓lR_0, ↓lJ_0, ↓lI_s, ↓lR_s, ↓lJ_s, ↓okSt_0, ↓okSt_I, ↓okSt_R, ↓okSt_N, ↓okSt_s, ↓rtI_s, ↓rtV_n, ↓brP_t, ↓brP_f, ↓sModel_near_0, ↓sModel_near_1, ↓sModel_near_2, ↓rf_43_0, ↓sModel_near_5, ↓sModel_near_6, ↓sModel_near_7, ↓sModel_near_9, ↓sModel_near_12, ↓sModel_near_15, ↓sModel_near_16, ↓sModel_near_17, ↓sModel_near_19, ↓sModel_near_22, ↓sModel_near_25, ↓sModel_near_26, ↓sModel_near_27, ↓sModel_near_30, ↓sModel_near_32, ↓sModel_near_33, ↓sModel_near_34, ↓rf_43_15, ↓sModel_near_37, ↓sModel_near_39, ↓sModel_near_40, ↓sModel_near_41, ↓sModel_near_42, ↓sModel_near_43, ↓sModel_near_44, ↓sModel_near_47, ↓sModel_near_48, ↓sModel_near_51, ↓sModel_near_52, ↓sModel_near_53, ↓sModel_near_54, ↓sModel_near_57, ↓sModel_near_59, ↓sModel_near_60, ↓sModel_near_61, ↓sModel_near_62, ↓sModel_near_63, ↓sModel_near_64, ↓sModel_near_65, ↓sModel_near_66, ↓sModel_near_69, ↓sModel_near_71, ↓sModel_near_72, ↓sModel_near_73, ↓sModel_near_74, ↓sModel_near_75, ↓sModel_near_76, ↓sModel_near_77, ↓sModel_near_78, ↓ln_55, List.set_cons_zero, List.set_cons_succ, List.length_cons, List.length_nil, List.contains_cons, List.contains_nil, cat1, brP_d, true_and, and_true, not_false_eq_true, not_true_eq_false, if_true, if_false, Bool.or_false, Bool.false_or, Bool.or_true, Bool.true_or, Bool.false_eq_true, Bool.or_self, false_implies, true_implies, forall_const, and_self, implies_true, true_or, or_true, or_false, false_or, or_self, Classical.not_not, Int.reduceAdd, Int.reduceSub, Int.reduceMul, Int.reduceNeg, Int.reduceToNat, Int.reduceLT, Int.reduceLE, Int.reduceEq, Int.reduceNe, Int.reduceNatCast', Nat.reduceAdd, Nat.reduceSub, Nat.reduceLeDiff, Nat.reduceLT, Nat.reduceEqDiff, Nat.reduceBEq, reduceIte, nx_w, nx_c, up_n, up_s, up_f, ne_eq, Nat.reduceEqDiff, Option.some.injEq, Prod.mk.injEq, exists_eq_left', reduceCtorEq]
  refine use_p (t_Model_in _ a 0 25) ?_
  constructor
  · intro h1
    grind [b2, qSet, okNear]
  · intro h1
    refine use_p (t_Model_in _ b 0 25) ?_
    grind [b2, qSet, okNear]
