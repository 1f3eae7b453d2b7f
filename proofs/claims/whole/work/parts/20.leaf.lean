/-! leaves of the reference and of the class -/
theorem use_p {q : MI} {as : List AV} {sh : SH} {h : HP} {f : Int} {K : Int → HP → Prop} (ht : trI q as sh h (fun r h' => h' = h ∧ r = f)) (k : K f h) : ∃ Q : Int → HP → Prop, trI q as sh h Q ∧ ∀ r h', Q r h' → K r h' := ⟨_, ht, fun r h' e => by rw [e.1, e.2]; exact k⟩
theorem use_q {q : MI} {as : List AV} {sh : SH} {h : HP} {K : Int → HP → Prop} {Q : Int → Prop} (ht : trI q as sh h (fun r h' => h' = h ∧ Q r)) (k : ∀ r, Q r → K r h) : ∃ Q : Int → HP → Prop, trI q as sh h Q ∧ ∀ r h', Q r h' → K r h' := ⟨_, ht, fun r h' e => by rw [e.1]; exact k r e.2⟩
def b2 (c : Prop) [Decidable c] : Int := if c then 1 else 0
def isL (c : Int) : Prop := (97 ≤ c ∧ c ≤ 122) ∨ (65 ≤ c ∧ c ≤ 90)
def sm (c : Int) : Int := if c < 97 then wr (c + 32) else c
theorem isL_dec (c : Int) : isL c ∨ ¬ isL c := Classical.em _
set_option maxRecDepth 100000 in
set_option maxHeartbeats 4000000 in
theorem t_Model_in (h : HP) (v lo hi : Int) : trI mModel_in [.inl v, .inl lo, .inl hi] SH0 h (fun r h' => h' = h ∧ r = b2 (lo ≤ v ∧ v ≤ hi)) := by
  refine startI [some (.inl v), some (.inl lo), some (.inl hi)] mModel_in_c (go [9999] 40 (k := ?_))
  simp (config := {maxSteps := 1000000}) only [↓pI_c, ↓pR_c, ↓pJ_c, ↓pV_c, ↓popN_0, ↓popN_s, ↓lI_0, ↓lR_0, ↓lJ_0, ↓lI_s, ↓lR_s, ↓lJ_s, ↓okSt_0, ↓okSt_I, ↓okSt_R, ↓okSt_N, ↓okSt_s, ↓rtI_s, ↓rtV_n, ↓brP_t, ↓brP_f, ↓sModel_in_0, ↓sModel_in_1, ↓sModel_in_2, ↓sModel_in_5, ↓sModel_in_6, ↓sModel_in_7, ↓sModel_in_10, ↓sModel_in_11, ↓sModel_in_14, ↓sModel_in_15, List.set_cons_zero, List.set_cons_succ, List.length_cons, List.length_nil, List.contains_cons, List.contains_nil, cat1, brP_d, true_and, and_true, not_false_eq_true, not_true_eq_false, if_true, if_false, Bool.or_false, Bool.false_or, Bool.or_true, Bool.true_or, Bool.false_eq_true, Bool.or_self, false_implies, true_implies, forall_const, and_self, implies_true, true_or, or_true, or_false, false_or, or_self, Classical.not_not, Int.reduceAdd, Int.reduceSub, Int.reduceMul, Int.reduceNeg, Int.reduceToNat, Int.reduceLT, Int.reduceLE, Int.reduceEq, Int.reduceNe, Int.reduceNatCast', Nat.reduceAdd, Nat.reduceSub, Nat.reduceLeDiff, Nat.reduceLT, Nat.reduceEqDiff, Nat.reduceBEq, reduceIte, nx_w, nx_c, up_n, up_s, up_f, ne_eq, Nat.reduceEqDiff, Option.some.injEq, Prod.mk.injEq, exists_eq_left', reduceCtorEq]
  simp only [b2]
  grind
set_option maxRecDepth 100000 in
set_option maxHeartbeats 4000000 in
theorem t_Model_isLetter (h : HP) (c : Int) : trI mModel_isLetter [.inl c] SH0 h (fun r h' => h' = h ∧ (isL c ∧ r = 1 ∨ ¬ isL c ∧ r = 0)) := by
  refine startI [some (.inl c)] mModel_isLetter_c (go [9999] 40 (k := ?_))
  simp (config := {maxSteps := 1000000}) only [↓pI_c, ↓pR_c, ↓pJ_c, ↓pV_c, ↓popN_0, ↓popN_s, ↓lI_0, ↓lR_0, ↓lJ_0, ↓lI_s, ↓lR_s, ↓lJ_s, ↓okSt_0, ↓okSt_I, ↓okSt_R, ↓okSt_N, ↓okSt_s, ↓rtI_s, ↓rtV_n, ↓brP_t, ↓brP_f, ↓sModel_isLetter_0, ↓sModel_isLetter_1, ↓sModel_isLetter_3, ↓sModel_isLetter_5, ↓sModel_isLetter_8, ↓sModel_isLetter_11, ↓sModel_isLetter_12, ↓sModel_isLetter_14, ↓sModel_isLetter_16, ↓sModel_isLetter_19, ↓sModel_isLetter_22, ↓sModel_isLetter_23, ↓sModel_isLetter_26, ↓sModel_isLetter_27, List.set_cons_zero, List.set_cons_succ, List.length_cons, List.length_nil, List.contains_cons, List.contains_nil, cat1, brP_d, true_and, and_true, not_false_eq_true, not_true_eq_false, if_true, if_false, Bool.or_false, Bool.false_or, Bool.or_true, Bool.true_or, Bool.false_eq_true, Bool.or_self, false_implies, true_implies, forall_const, and_self, implies_true, true_or, or_true, or_false, false_or, or_self, Classical.not_not, Int.reduceAdd, Int.reduceSub, Int.reduceMul, Int.reduceNeg, Int.reduceToNat, Int.reduceLT, Int.reduceLE, Int.reduceEq, Int.reduceNe, Int.reduceNatCast', Nat.reduceAdd, Nat.reduceSub, Nat.reduceLeDiff, Nat.reduceLT, Nat.reduceEqDiff, Nat.reduceBEq, reduceIte, nx_w, nx_c, up_n, up_s, up_f, ne_eq, Nat.reduceEqDiff, Option.some.injEq, Prod.mk.injEq, exists_eq_left', reduceCtorEq]
  refine use_p (t_Model_in h c 97 122) ?_
  constructor
  · intro h1
    simp only [b2, isL] at *
    grind
  · intro h1
    refine use_p (t_Model_in _ c 65 90) ?_
    simp only [b2, isL] at *
    grind
set_option maxRecDepth 100000 in
set_option maxHeartbeats 4000000 in
theorem t_Model_small (h : HP) (c : Int) : trI mModel_small [.inl c] SH0 h (fun r h' => h' = h ∧ r = sm c) := by
  refine startI [some (.inl c)] mModel_small_c (go [9999] 40 (k := ?_))
  simp (config := {maxSteps := 1000000}) only [↓pI_c, ↓pR_c, ↓pJ_c, ↓pV_c, ↓popN_0, ↓popN_s, ↓lI_0, ↓lR_0, ↓lJ_0, ↓lI_s, ↓lR_s, ↓lJ_s, ↓okSt_0, ↓okSt_I, ↓okSt_R, ↓okSt_N, ↓okSt_s, ↓rtI_s, ↓rtV_n, ↓brP_t, ↓brP_f, ↓sModel_small_0, ↓sModel_small_1, ↓sModel_small_3, ↓sModel_small_6, ↓sModel_small_7, ↓sModel_small_9, ↓sModel_small_10, ↓sModel_small_13, ↓sModel_small_14, List.set_cons_zero, List.set_cons_succ, List.length_cons, List.length_nil, List.contains_cons, List.contains_nil, cat1, brP_d, true_and, and_true, not_false_eq_true, not_true_eq_false, if_true, if_false, Bool.or_false, Bool.false_or, Bool.or_true, Bool.true_or, Bool.false_eq_true, Bool.or_self, false_implies, true_implies, forall_const, and_self, implies_true, true_or, or_true, or_false, false_or, or_self, Classical.not_not, Int.reduceAdd, Int.reduceSub, Int.reduceMul, Int.reduceNeg, Int.reduceToNat, Int.reduceLT, Int.reduceLE, Int.reduceEq, Int.reduceNe, Int.reduceNatCast', Nat.reduceAdd, Nat.reduceSub, Nat.reduceLeDiff, Nat.reduceLT, Nat.reduceEqDiff, Nat.reduceBEq, reduceIte, nx_w, nx_c, up_n, up_s, up_f, ne_eq, Nat.reduceEqDiff, Option.some.injEq, Prod.mk.injEq, exists_eq_left', reduceCtorEq]
  simp only [sm]
  grind
set_option maxRecDepth 100000 in
set_option maxHeartbeats 4000000 in
theorem t_Model_least (h : HP) (a b : Int) : trI mModel_least [.inr (.inr 43), .inl a, .inl b] SH0 h (fun r h' => h' = h ∧ r = if a < b then a else b) := by
  refine startI [some (.inr (.inr 43)), some (.inl a), some (.inl b)] mModel_least_c (go [9999] 40 (k := ?_))
  simp (config := {maxSteps := 1000000}) only [↓pI_c, ↓pR_c, ↓pJ_c, ↓pV_c, ↓popN_0, ↓popN_s, ↓lI_0, ↓lR_0, ↓lJ_0, ↓lI_s, ↓lR_s, ↓lJ_s, ↓okSt_0, ↓okSt_I, ↓okSt_R, ↓okSt_N, ↓okSt_s, ↓rtI_s, ↓rtV_n, ↓brP_t, ↓brP_f, ↓sModel_least_0, ↓sModel_least_1, ↓sModel_least_2, ↓sModel_least_5, ↓sModel_least_6, ↓sModel_least_9, ↓sModel_least_10, List.set_cons_zero, List.set_cons_succ, List.length_cons, List.length_nil, List.contains_cons, List.contains_nil, cat1, brP_d, true_and, and_true, not_false_eq_true, not_true_eq_false, if_true, if_false, Bool.or_false, Bool.false_or, Bool.or_true, Bool.true_or, Bool.false_eq_true, Bool.or_self, false_implies, true_implies, forall_const, and_self, implies_true, true_or, or_true, or_false, false_or, or_self, Classical.not_not, Int.reduceAdd, Int.reduceSub, Int.reduceMul, Int.reduceNeg, Int.reduceToNat, Int.reduceLT, Int.reduceLE, Int.reduceEq, Int.reduceNe, Int.reduceNatCast', Nat.reduceAdd, Nat.reduceSub, Nat.reduceLeDiff, Nat.reduceLT, Nat.reduceEqDiff, Nat.reduceBEq, reduceIte, nx_w, nx_c, up_n, up_s, up_f, ne_eq, Nat.reduceEqDiff, Option.some.injEq, Prod.mk.injEq, exists_eq_left', reduceCtorEq]
  grind
set_option maxRecDepth 100000 in
set_option maxHeartbeats 4000000 in
theorem t_Model_inScope (h : HP) (w : Int) (h0 : 0 ≤ w) (h1 : w < 60) : trI mModel_inScope [.inr (.inr 43), .inl w] SH0 h (fun r h' => h' = h ∧ r = b2 (¬ h 44 w.toNat = 1 ∨ ¬ h 45 w.toNat = 0)) := by
  refine startI [some (.inr (.inr 43)), some (.inl w)] mModel_inScope_c (go [9999] 40 (k := ?_))
  simp (config := {maxSteps := 1000000}) only [↓pI_c, ↓pR_c, ↓pJ_c, ↓pV_c, ↓popN_0, ↓popN_s, ↓lI_0, ↓lR_0, ↓lJ_0, ↓lI_s, ↓lR_s, ↓lJ_s, ↓okSt_0, ↓okSt_I, ↓okSt_R, ↓okSt_N, ↓okSt_s, ↓rtI_s, ↓rtV_n, ↓brP_t, ↓brP_f, ↓sModel_inScope_0, ↓sModel_inScope_1, ↓rf_43_2, ↓sModel_inScope_4, ↓sModel_inScope_5, ↓sModel_inScope_6, ↓sModel_inScope_7, ↓sModel_inScope_10, ↓sModel_inScope_11, ↓rf_43_3, ↓sModel_inScope_14, ↓sModel_inScope_15, ↓sModel_inScope_16, ↓sModel_inScope_19, ↓sModel_inScope_20, ↓sModel_inScope_23, ↓sModel_inScope_24, ↓ln_44, ↓ln_45, List.set_cons_zero, List.set_cons_succ, List.length_cons, List.length_nil, List.contains_cons, List.contains_nil, cat1, brP_d, true_and, and_true, not_false_eq_true, not_true_eq_false, if_true, if_false, Bool.or_false, Bool.false_or, Bool.or_true, Bool.true_or, Bool.false_eq_true, Bool.or_self, false_implies, true_implies, forall_const, and_self, implies_true, true_or, or_true, or_false, false_or, or_self, Classical.not_not, Int.reduceAdd, Int.reduceSub, Int.reduceMul, Int.reduceNeg, Int.reduceToNat, Int.reduceLT, Int.reduceLE, Int.reduceEq, Int.reduceNe, Int.reduceNatCast', Nat.reduceAdd, Nat.reduceSub, Nat.reduceLeDiff, Nat.reduceLT, Nat.reduceEqDiff, Nat.reduceBEq, reduceIte, nx_w, nx_c, up_n, up_s, up_f, ne_eq, Nat.reduceEqDiff, Option.some.injEq, Prod.mk.injEq, exists_eq_left', reduceCtorEq]
  simp only [b2]
  grind
set_option maxRecDepth 100000 in
set_option maxHeartbeats 4000000 in
theorem t_Model_is (h : HP) (w k : Int) (hw : 0 ≤ h 43 1 ∧ h 43 1 ≤ 60) : trI mModel_is [.inr (.inr 43), .inl w, .inl k] SH0 h (fun r h' => h' = h ∧ r = b2 (0 ≤ w ∧ w < h 43 1 ∧ h 44 w.toNat = k)) := by
  refine startI [some (.inr (.inr 43)), some (.inl w), some (.inl k)] mModel_is_c (go [9999] 40 (k := ?_))
  simp (config := {maxSteps := 1000000}) only [↓pI_c, ↓pR_c, ↓pJ_c, ↓pV_c, ↓popN_0, ↓popN_s, ↓lI_0, ↓lR_0, ↓lJ_0, ↓lI_s, ↓lR_s, ↓lJ_s, ↓okSt_0, ↓okSt_I, ↓okSt_R, ↓okSt_N, ↓okSt_s, ↓rtI_s, ↓rtV_n, ↓brP_t, ↓brP_f, ↓sModel_is_0, ↓sModel_is_1, ↓sModel_is_2, ↓sModel_is_3, ↓rf_43_1, ↓sModel_is_6, ↓sModel_is_7, ↓sModel_is_8, ↓sModel_is_11, ↓sModel_is_14, ↓sModel_is_15, ↓rf_43_2, ↓sModel_is_18, ↓sModel_is_19, ↓sModel_is_20, ↓sModel_is_21, ↓sModel_is_24, ↓sModel_is_25, ↓sModel_is_28, ↓sModel_is_29, ↓ln_44, List.set_cons_zero, List.set_cons_succ, List.length_cons, List.length_nil, List.contains_cons, List.contains_nil, cat1, brP_d, true_and, and_true, not_false_eq_true, not_true_eq_false, if_true, if_false, Bool.or_false, Bool.false_or, Bool.or_true, Bool.true_or, Bool.false_eq_true, Bool.or_self, false_implies, true_implies, forall_const, and_self, implies_true, true_or, or_true, or_false, false_or, or_self, Classical.not_not, Int.reduceAdd, Int.reduceSub, Int.reduceMul, Int.reduceNeg, Int.reduceToNat, Int.reduceLT, Int.reduceLE, Int.reduceEq, Int.reduceNe, Int.reduceNatCast', Nat.reduceAdd, Nat.reduceSub, Nat.reduceLeDiff, Nat.reduceLT, Nat.reduceEqDiff, Nat.reduceBEq, reduceIte, nx_w, nx_c, up_n, up_s, up_f, ne_eq, Nat.reduceEqDiff, Option.some.injEq, Prod.mk.injEq, exists_eq_left', reduceCtorEq]
  rw [wr_id (by omega) (by omega)]
  refine use_p (t_Model_in h w 0 (h 43 1 - 1)) ?_
  simp only [b2]
  grind
def lOf (b : Int) : Int := if 97 ≤ b ∧ b ≤ 122 then b - 97 else if 65 ≤ b ∧ b ≤ 90 then b - 65 else -1
set_option maxRecDepth 100000 in
set_option maxHeartbeats 4000000 in
theorem t_Help_letterOf (h : HP) (b : Int) : trI mHelp_letterOf [.inl b] SH0 h (fun r h' => h' = h ∧ r = lOf b) := by
  refine startI [some (.inl b)] mHelp_letterOf_c (go [9999] 40 (k := ?_))
  simp (config := {maxSteps := 1000000}) only [↓pI_c, ↓pR_c, ↓pJ_c, ↓pV_c, ↓popN_0, ↓popN_s, ↓lI_0, ↓lR_0, ↓lJ_0, ↓lI_s, ↓lR_s, ↓lJ_s, ↓okSt_0, ↓okSt_I, ↓okSt_R, ↓okSt_N, ↓okSt_s, ↓rtI_s, ↓rtV_n, ↓brP_t, ↓brP_f, ↓sHelp_letterOf_0, ↓sHelp_letterOf_1, ↓sHelp_letterOf_3, ↓sHelp_letterOf_6, ↓sHelp_letterOf_7, ↓sHelp_letterOf_9, ↓sHelp_letterOf_12, ↓sHelp_letterOf_13, ↓sHelp_letterOf_15, ↓sHelp_letterOf_16, ↓sHelp_letterOf_17, ↓sHelp_letterOf_18, ↓sHelp_letterOf_20, ↓sHelp_letterOf_23, ↓sHelp_letterOf_24, ↓sHelp_letterOf_26, ↓sHelp_letterOf_29, ↓sHelp_letterOf_30, ↓sHelp_letterOf_32, ↓sHelp_letterOf_33, ↓sHelp_letterOf_36, ↓sHelp_letterOf_37, List.set_cons_zero, List.set_cons_succ, List.length_cons, List.length_nil, List.contains_cons, List.contains_nil, cat1, brP_d, true_and, and_true, not_false_eq_true, not_true_eq_false, if_true, if_false, Bool.or_false, Bool.false_or, Bool.or_true, Bool.true_or, Bool.false_eq_true, Bool.or_self, false_implies, true_implies, forall_const, and_self, implies_true, true_or, or_true, or_false, false_or, or_self, Classical.not_not, Int.reduceAdd, Int.reduceSub, Int.reduceMul, Int.reduceNeg, Int.reduceToNat, Int.reduceLT, Int.reduceLE, Int.reduceEq, Int.reduceNe, Int.reduceNatCast', Nat.reduceAdd, Nat.reduceSub, Nat.reduceLeDiff, Nat.reduceLT, Nat.reduceEqDiff, Nat.reduceBEq, reduceIte, nx_w, nx_c, up_n, up_s, up_f, ne_eq, Nat.reduceEqDiff, Option.some.injEq, Prod.mk.injEq, exists_eq_left', reduceCtorEq]
  simp only [lOf]
  by_cases h1 : 97 ≤ b ∧ b ≤ 122
  · rw [wr_id (x := b - 97) (by omega) (by omega)]
    grind
  · by_cases h2 : 65 ≤ b ∧ b ≤ 90
    · rw [wr_id (x := b - 65) (by omega) (by omega)]
      grind
    · grind
set_option maxRecDepth 100000 in
set_option maxHeartbeats 4000000 in
theorem t_Words_isOf (h : HP) (w k : Int) (hw : h 10 4 ≤ 60) : trI mWords_isOf [.inr (.inr 10), .inl w, .inl k] SH0 h (fun r h' => h' = h ∧ r = b2 (0 ≤ w ∧ w < h 10 4 ∧ h 11 w.toNat = k)) := by
  refine startI [some (.inr (.inr 10)), some (.inl w), some (.inl k)] mWords_isOf_c (go [9999] 40 (k := ?_))
  simp (config := {maxSteps := 1000000}) only [↓pI_c, ↓pR_c, ↓pJ_c, ↓pV_c, ↓popN_0, ↓popN_s, ↓lI_0, ↓lR_0, ↓lJ_0, ↓lI_s, ↓lR_s, ↓lJ_s, ↓okSt_0, ↓okSt_I, ↓okSt_R, ↓okSt_N, ↓okSt_s, ↓rtI_s, ↓rtV_n, ↓brP_t, ↓brP_f, ↓sWords_isOf_0, ↓sWords_isOf_1, ↓sWords_isOf_4, ↓sWords_isOf_5, ↓sWords_isOf_6, ↓rf_10_4, ↓sWords_isOf_9, ↓sWords_isOf_12, ↓sWords_isOf_13, ↓rf_10_0, ↓sWords_isOf_16, ↓sWords_isOf_17, ↓sWords_isOf_18, ↓sWords_isOf_19, ↓sWords_isOf_22, ↓sWords_isOf_23, ↓sWords_isOf_26, ↓sWords_isOf_27, ↓ln_11, List.set_cons_zero, List.set_cons_succ, List.length_cons, List.length_nil, List.contains_cons, List.contains_nil, cat1, brP_d, true_and, and_true, not_false_eq_true, not_true_eq_false, if_true, if_false, Bool.or_false, Bool.false_or, Bool.or_true, Bool.true_or, Bool.false_eq_true, Bool.or_self, false_implies, true_implies, forall_const, and_self, implies_true, true_or, or_true, or_false, false_or, or_self, Classical.not_not, Int.reduceAdd, Int.reduceSub, Int.reduceMul, Int.reduceNeg, Int.reduceToNat, Int.reduceLT, Int.reduceLE, Int.reduceEq, Int.reduceNe, Int.reduceNatCast', Nat.reduceAdd, Nat.reduceSub, Nat.reduceLeDiff, Nat.reduceLT, Nat.reduceEqDiff, Nat.reduceBEq, reduceIte, nx_w, nx_c, up_n, up_s, up_f, ne_eq, Nat.reduceEqDiff, Option.some.injEq, Prod.mk.injEq, exists_eq_left', reduceCtorEq]
  simp only [b2]
  grind
