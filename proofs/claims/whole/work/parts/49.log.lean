/-! the log: forward, pair -/
def CLg (g : HP) : Prop := 0 ≤ g 36 4 ∧ g 36 4 ≤ 40 ∧ ∀ k : Nat, (k : Int) < g 36 4 → (1 ≤ g 38 k ∧ g 38 k ≤ 12) ∧ (0 ≤ g 39 k ∧ g 39 k < g 10 4) ∧ ∀ i : Nat, (i : Int) < g 38 k → 0 ≤ g 37 (12 * k + i) ∧ g 37 (12 * k + i) ≤ 25
def CMg (g h : HP) : Prop := h 43 39 = g 36 4 ∧ ∀ k : Nat, (k : Int) < g 36 4 → h 70 k = g 38 k ∧ h 71 k = g 39 k ∧ h 72 k = g 40 k ∧ ∀ i : Nat, (i : Int) < g 38 k → h 69 (12 * k + i) = g 37 (12 * k + i) + 97
theorem CMg.ms {g h h' : HP} (hs : MS h h') (hm : CMg g h) : CMg g h' := by
  obtain ⟨a1, a2⟩ := hm
  refine ⟨(hs.2 43 39 rfl).trans a1, fun k hk => ?_⟩
  obtain ⟨b1, b2', b3, b4⟩ := a2 k hk
  exact ⟨(hs.2 70 k rfl).trans b1, (hs.2 71 k rfl).trans b2', (hs.2 72 k rfl).trans b3, fun i hi => (hs.2 69 _ rfl).trans (b4 i hi)⟩
def fwP (l : Int) (f : Nat → Int) (k : Nat) : Prop := l ≤ f k
set_option maxRecDepth 100000 in
set_option maxHeartbeats 4000000 in
theorem l_Log_countForward (h : HP) (l : Int) (h40 : h 36 4 ≤ 40) : ∀ (d k : Nat), h 36 4 - k < d → (k : Int) ≤ h 36 4 → Wn Z4 mLog_countForward SH0 4 [some (.inr (.inr 36)), some (.inl l), some (.inl (cntP (fwP l (h 40)) k)), some (.inl k)] [] h (rtI (fun x h' => h' = h ∧ x = cntP (fwP l (h 40)) (h 36 4).toNat)) := by
  intro d
  induction d with
  | zero => intro k h1 h2; omega
  | succ d ih =>
    intro k h1 h2
    have hin := cntP_in (fwP l (h 40)) k
    have ek : ((k : Int)).toNat = k := by omega
    refine go [4] 400 (k := ?_)
    simp (config := {maxSteps := 1000000}) only [↓pI_c, ↓pR_c, ↓pJ_c, ↓pV_c, ↓popN_0, ↓popN_s, ↓lI_0, ↓lR_0, ↓lJ_0, ↓lI_s, ↓lR_s, ↓lJ_s, ↓okSt_0, ↓okSt_I, ↓okSt_R, ↓okSt_N, ↓okSt_s, ↓rtI_s, ↓rtV_n, ↓brP_t, ↓brP_f, ↓sLog_countForward_0, ↓sLog_countForward_1, ↓sLog_countForward_2, ↓sLog_countForward_3, ↓sLog_countForward_4, ↓sLog_countForward_5, ↓sLog_countForward_6, ↓rf_36_4, ↓sLog_countForward_9, ↓sLog_countForward_12, ↓sLog_countForward_13, ↓rf_36_3, ↓sLog_countForward_16, ↓sLog_countForward_17, ↓sLog_countForward_18, ↓sLog_countForward_19, ↓sLog_countForward_22, ↓sLog_countForward_25, ↓sLog_countForward_28, ↓sLog_countForward_31, ↓sLog_countForward_32, ↓ln_40, List.set_cons_zero, List.set_cons_succ, List.length_cons, List.length_nil, List.contains_cons, List.contains_nil, cat1, brP_d, true_and, and_true, not_false_eq_true, not_true_eq_false, if_true, if_false, Bool.or_false, Bool.false_or, Bool.or_true, Bool.true_or, Bool.false_eq_true, Bool.or_self, false_implies, true_implies, forall_const, and_self, implies_true, true_or, or_true, or_false, false_or, or_self, Classical.not_not, Int.reduceAdd, Int.reduceSub, Int.reduceMul, Int.reduceNeg, Int.reduceToNat, Int.reduceLT, Int.reduceLE, Int.reduceEq, Int.reduceNe, Int.reduceNatCast', Nat.reduceAdd, Nat.reduceSub, Nat.reduceLeDiff, Nat.reduceLT, Nat.reduceEqDiff, Nat.reduceBEq, reduceIte, nx_w, nx_c, up_n, up_s, up_f, ne_eq, Nat.reduceEqDiff, Option.some.injEq, Prod.mk.injEq, exists_eq_left', reduceCtorEq, ek]
    rw [wr_id (x := (k : Int) + 1) (by omega) (by omega), wr_id (x := cntP (fwP l (h 40)) k + 1) (by omega) (by omega)]
    refine ⟨fun c1 => ?_, fun c1 => ?_⟩
    · have e : (h 36 4).toNat = k := by omega
      rw [e]
    · have hi := ih (k + 1) (by push_cast; omega) (by push_cast; omega)
      push_cast at hi
      refine ⟨by omega, fun c2 => ?_, fun c2 => ?_⟩
      · rw [cntP_n (show ¬ fwP l (h 40) k from fun z => by unfold fwP at z; omega)] at hi
        exact hi
      · rw [cntP_y (show fwP l (h 40) k from by unfold fwP; omega)] at hi
        exact hi
set_option maxRecDepth 100000 in
set_option maxHeartbeats 4000000 in
theorem t_Log_countForward (h : HP) (l : Int) (h40 : 0 ≤ h 36 4 ∧ h 36 4 ≤ 40) : trI mLog_countForward [.inr (.inr 36), .inl l] SH0 h (fun x h' => h' = h ∧ x = cntP (fwP l (h 40)) (h 36 4).toNat) := by
  refine startI [some (.inr (.inr 36)), some (.inl l), none, none] mLog_countForward_c (go [4] 400 (k := ?_))
  simp (config := {maxSteps := 1000000}) only [↓pI_c, ↓pR_c, ↓pJ_c, ↓pV_c, ↓popN_0, ↓popN_s, ↓lI_0, ↓lR_0, ↓lJ_0, ↓lI_s, ↓lR_s, ↓lJ_s, ↓okSt_0, ↓okSt_I, ↓okSt_R, ↓okSt_N, ↓okSt_s, ↓rtI_s, ↓rtV_n, ↓brP_t, ↓brP_f, ↓sLog_countForward_0, ↓sLog_countForward_1, ↓sLog_countForward_2, ↓sLog_countForward_3, ↓sLog_countForward_4, ↓sLog_countForward_5, ↓sLog_countForward_6, ↓rf_36_4, ↓sLog_countForward_9, ↓sLog_countForward_12, ↓sLog_countForward_13, ↓rf_36_3, ↓sLog_countForward_16, ↓sLog_countForward_17, ↓sLog_countForward_18, ↓sLog_countForward_19, ↓sLog_countForward_22, ↓sLog_countForward_25, ↓sLog_countForward_28, ↓sLog_countForward_31, ↓sLog_countForward_32, ↓ln_40, List.set_cons_zero, List.set_cons_succ, List.length_cons, List.length_nil, List.contains_cons, List.contains_nil, cat1, brP_d, true_and, and_true, not_false_eq_true, not_true_eq_false, if_true, if_false, Bool.or_false, Bool.false_or, Bool.or_true, Bool.true_or, Bool.false_eq_true, Bool.or_self, false_implies, true_implies, forall_const, and_self, implies_true, true_or, or_true, or_false, false_or, or_self, Classical.not_not, Int.reduceAdd, Int.reduceSub, Int.reduceMul, Int.reduceNeg, Int.reduceToNat, Int.reduceLT, Int.reduceLE, Int.reduceEq, Int.reduceNe, Int.reduceNatCast', Nat.reduceAdd, Nat.reduceSub, Nat.reduceLeDiff, Nat.reduceLT, Nat.reduceEqDiff, Nat.reduceBEq, reduceIte, nx_w, nx_c, up_n, up_s, up_f, ne_eq, Nat.reduceEqDiff, Option.some.injEq, Prod.mk.injEq, exists_eq_left', reduceCtorEq]
  exact l_Log_countForward h l h40.2 ((h 36 4).toNat + 1) 0 (by push_cast; omega) (by push_cast; omega)
set_option maxRecDepth 100000 in
set_option maxHeartbeats 4000000 in
theorem l_Log_findForward (h : HP) (i l : Int) (h40 : h 36 4 ≤ 40) : ∀ (d k : Nat), h 36 4 - k < d → (k : Int) ≤ h 36 4 → (∀ u : Nat, u < k → fwP l (h 40) u → ¬ cntP (fwP l (h 40)) u = i) → Wn Z4 mLog_findForward SH0 5 [some (.inr (.inr 36)), some (.inl i), some (.inl l), some (.inl (cntP (fwP l (h 40)) k)), some (.inl k)] [] h (rtI (fun x h' => h' = h ∧ pkP (fwP l (h 40)) (h 36 4) i x (-1))) := by
  intro d
  induction d with
  | zero => intro k h1 h2; omega
  | succ d ih =>
    intro k h1 h2 h3
    have hin := cntP_in (fwP l (h 40)) k
    have ek : ((k : Int)).toNat = k := by omega
    refine go [5] 400 (k := ?_)
    simp (config := {maxSteps := 1000000}) only [↓pI_c, ↓pR_c, ↓pJ_c, ↓pV_c, ↓popN_0, ↓popN_s, ↓lI_0, ↓lR_0, ↓lJ_0, ↓lI_s, ↓lR_s, ↓lJ_s, ↓okSt_0, ↓okSt_I, ↓okSt_R, ↓okSt_N, ↓okSt_s, ↓rtI_s, ↓rtV_n, ↓brP_t, ↓brP_f, ↓sLog_findForward_0, ↓sLog_findForward_1, ↓sLog_findForward_2, ↓sLog_findForward_3, ↓sLog_findForward_5, ↓sLog_findForward_7, ↓sLog_findForward_8, ↓rf_36_4, ↓sLog_findForward_11, ↓sLog_findForward_14, ↓sLog_findForward_15, ↓rf_36_3, ↓sLog_findForward_18, ↓sLog_findForward_20, ↓sLog_findForward_21, ↓sLog_findForward_22, ↓sLog_findForward_25, ↓sLog_findForward_26, ↓sLog_findForward_27, ↓sLog_findForward_30, ↓sLog_findForward_32, ↓sLog_findForward_33, ↓sLog_findForward_36, ↓sLog_findForward_39, ↓sLog_findForward_42, ↓sLog_findForward_43, ↓ln_40, List.set_cons_zero, List.set_cons_succ, List.length_cons, List.length_nil, List.contains_cons, List.contains_nil, cat1, brP_d, true_and, and_true, not_false_eq_true, not_true_eq_false, if_true, if_false, Bool.or_false, Bool.false_or, Bool.or_true, Bool.true_or, Bool.false_eq_true, Bool.or_self, false_implies, true_implies, forall_const, and_self, implies_true, true_or, or_true, or_false, false_or, or_self, Classical.not_not, Int.reduceAdd, Int.reduceSub, Int.reduceMul, Int.reduceNeg, Int.reduceToNat, Int.reduceLT, Int.reduceLE, Int.reduceEq, Int.reduceNe, Int.reduceNatCast', Nat.reduceAdd, Nat.reduceSub, Nat.reduceLeDiff, Nat.reduceLT, Nat.reduceEqDiff, Nat.reduceBEq, reduceIte, nx_w, nx_c, up_n, up_s, up_f, ne_eq, Nat.reduceEqDiff, Option.some.injEq, Prod.mk.injEq, exists_eq_left', reduceCtorEq, ek]
    rw [wr_id (x := (k : Int) + 1) (by omega) (by omega), wr_id (x := cntP (fwP l (h 40)) k + 1) (by omega) (by omega)]
    refine ⟨fun c1 => Or.inr ⟨fun u hu => h3 u (by omega), rfl⟩, fun c1 => ?_⟩
    have hi := ih (k + 1) (by push_cast; omega) (by push_cast; omega)
    push_cast at hi
    refine ⟨by omega, fun c2 => ?_, fun c2 => ⟨fun c3 => ?_, fun c3 => ?_⟩⟩
    · have hc : ¬ fwP l (h 40) k := fun z => by unfold fwP at z; omega
      rw [cntP_n hc] at hi
      refine hi (fun u hu hp => ?_)
      by_cases e : u = k
      · rw [e] at hp; exact absurd hp hc
      · exact h3 u (by omega) hp
    · have hc : fwP l (h 40) k := by unfold fwP; omega
      rw [cntP_y hc] at hi
      refine hi (fun u hu hp => ?_)
      by_cases e : u = k
      · rw [e]; exact c3
      · exact h3 u (by omega) hp
    · have hc : fwP l (h 40) k := by unfold fwP; omega
      exact Or.inl ⟨k, by omega, hc, c3, rfl⟩
set_option maxRecDepth 100000 in
set_option maxHeartbeats 4000000 in
theorem t_Log_findForward (h : HP) (i l : Int) (h40 : 0 ≤ h 36 4 ∧ h 36 4 ≤ 40) : trI mLog_findForward [.inr (.inr 36), .inl i, .inl l] SH0 h (fun x h' => h' = h ∧ pkP (fwP l (h 40)) (h 36 4) i x (-1)) := by
  refine startI [some (.inr (.inr 36)), some (.inl i), some (.inl l), none, none] mLog_findForward_c (go [5] 400 (k := ?_))
  simp (config := {maxSteps := 1000000}) only [↓pI_c, ↓pR_c, ↓pJ_c, ↓pV_c, ↓popN_0, ↓popN_s, ↓lI_0, ↓lR_0, ↓lJ_0, ↓lI_s, ↓lR_s, ↓lJ_s, ↓okSt_0, ↓okSt_I, ↓okSt_R, ↓okSt_N, ↓okSt_s, ↓rtI_s, ↓rtV_n, ↓brP_t, ↓brP_f, ↓sLog_findForward_0, ↓sLog_findForward_1, ↓sLog_findForward_2, ↓sLog_findForward_3, ↓sLog_findForward_5, ↓sLog_findForward_7, ↓sLog_findForward_8, ↓rf_36_4, ↓sLog_findForward_11, ↓sLog_findForward_14, ↓sLog_findForward_15, ↓rf_36_3, ↓sLog_findForward_18, ↓sLog_findForward_20, ↓sLog_findForward_21, ↓sLog_findForward_22, ↓sLog_findForward_25, ↓sLog_findForward_26, ↓sLog_findForward_27, ↓sLog_findForward_30, ↓sLog_findForward_32, ↓sLog_findForward_33, ↓sLog_findForward_36, ↓sLog_findForward_39, ↓sLog_findForward_42, ↓sLog_findForward_43, ↓ln_40, List.set_cons_zero, List.set_cons_succ, List.length_cons, List.length_nil, List.contains_cons, List.contains_nil, cat1, brP_d, true_and, and_true, not_false_eq_true, not_true_eq_false, if_true, if_false, Bool.or_false, Bool.false_or, Bool.or_true, Bool.true_or, Bool.false_eq_true, Bool.or_self, false_implies, true_implies, forall_const, and_self, implies_true, true_or, or_true, or_false, false_or, or_self, Classical.not_not, Int.reduceAdd, Int.reduceSub, Int.reduceMul, Int.reduceNeg, Int.reduceToNat, Int.reduceLT, Int.reduceLE, Int.reduceEq, Int.reduceNe, Int.reduceNatCast', Nat.reduceAdd, Nat.reduceSub, Nat.reduceLeDiff, Nat.reduceLT, Nat.reduceEqDiff, Nat.reduceBEq, reduceIte, nx_w, nx_c, up_n, up_s, up_f, ne_eq, Nat.reduceEqDiff, Option.some.injEq, Prod.mk.injEq, exists_eq_left', reduceCtorEq]
  exact l_Log_findForward h i l h40.2 ((h 36 4).toNat + 1) 0 (by push_cast; omega) (by push_cast; omega) (fun u hu => absurd hu (Nat.not_lt_zero u))
theorem pkP_in {p : Nat → Prop} {n i r : Int} (h : pkP p n i r (-1)) : r = -1 ∨ (0 ≤ r ∧ r < n) := by
  rcases h with ⟨w, a1, _, _, a2⟩ | ⟨_, a⟩
  · right; omega
  · left; exact a
def sFwd (g : HP) (r : Int) : Prop := r = cntP (fwP (g 4 8) (g 40)) (g 36 4).toNat
set_option maxRecDepth 100000 in
set_option maxHeartbeats 4000000 in
theorem t_Help_forward (h : HP) (hG : CLg h) : trI mHelp_forward [.inr (.inr 0)] SH0 h (roC sFwd h) := by
  refine startI [some (.inr (.inr 0))] mHelp_forward_c (go [9999] 400 (k := ?_))
  simp (config := {maxSteps := 1000000}) only [↓pI_c, ↓pR_c, ↓pJ_c, ↓pV_c, ↓popN_0, ↓popN_s, ↓lI_0, ↓lR_0, ↓lJ_0, ↓lI_s, ↓lR_s, ↓lJ_s, ↓okSt_0, ↓okSt_I, ↓okSt_R, ↓okSt_N, ↓okSt_s, ↓rtI_s, ↓rtV_n, ↓brP_t, ↓brP_f, ↓sHelp_forward_0, ↓sHelp_forward_1, ↓rf_0_11, ↓sHelp_forward_4, ↓sHelp_forward_5, ↓rf_0_3, ↓sHelp_forward_8, ↓rf_3_0, ↓sHelp_forward_11, ↓sHelp_forward_13, ↓sHelp_forward_14, ↓sHelp_forward_17, ↓ln_4, List.set_cons_zero, List.set_cons_succ, List.length_cons, List.length_nil, List.contains_cons, List.contains_nil, cat1, brP_d, true_and, and_true, not_false_eq_true, not_true_eq_false, if_true, if_false, Bool.or_false, Bool.false_or, Bool.or_true, Bool.true_or, Bool.false_eq_true, Bool.or_self, false_implies, true_implies, forall_const, and_self, implies_true, true_or, or_true, or_false, false_or, or_self, Classical.not_not, Int.reduceAdd, Int.reduceSub, Int.reduceMul, Int.reduceNeg, Int.reduceToNat, Int.reduceLT, Int.reduceLE, Int.reduceEq, Int.reduceNe, Int.reduceNatCast', Nat.reduceAdd, Nat.reduceSub, Nat.reduceLeDiff, Nat.reduceLT, Nat.reduceEqDiff, Nat.reduceBEq, reduceIte, nx_w, nx_c, up_n, up_s, up_f, ne_eq, Nat.reduceEqDiff, Option.some.injEq, Prod.mk.injEq, exists_eq_left', reduceCtorEq, ob_36]
  refine use_p (t_Log_countForward h _ ⟨hG.1, hG.2.1⟩) ?_
  exact ⟨KF.rf, rfl⟩
def sPair (i w : Int) (g : HP) (r : Int) : Prop := ∃ q, pkP (fwP (g 4 8) (g 40)) (g 36 4) i q (-1) ∧ ((q = -1 ∧ r = -2) ∨ (¬ q = -1 ∧ ((w < 0 ∨ 2 + g 38 q.toNat < w) ∧ r = -2 ∨ (w = 0 ∧ r = g 39 q.toNat) ∨ (w = 1 ∧ r = g 40 q.toNat) ∨ (w = 2 ∧ r = g 38 q.toNat) ∨ ((3 ≤ w ∧ w ≤ 2 + g 38 q.toNat) ∧ r = g 37 (12 * q.toNat + (w - 3).toNat)))))
theorem sPair_uni {g : HP} (hG : CLg g) {i w r r' : Int} (h : sPair i w g r) (h' : sPair i w g r') : r = r' := by
  obtain ⟨q, a1, a2⟩ := h
  obtain ⟨q', b1, b2'⟩ := h'
  have e := pkP_uni a1 b1
  subst e
  rcases pkP_in a1 with z | z
  · omega
  · have := (hG.2.2 q.toNat (by omega)).1
    omega
set_option maxRecDepth 100000 in
set_option maxHeartbeats 4000000 in
theorem t_Help_pair (h : HP) (hG : CLg h) (i w : Int) (hw : inR w) : trI mHelp_pair [.inr (.inr 0), .inl i, .inl w] SH0 h (roC (sPair i w) h) := by
  have h40 := hG.2.1
  refine startI [some (.inr (.inr 0)), some (.inl i), some (.inl w), none] mHelp_pair_c (go [9999] 400 (k := ?_))
  simp (config := {maxSteps := 1000000}) only [↓pI_c, ↓pR_c, ↓pJ_c, ↓pV_c, ↓popN_0, ↓popN_s, ↓lI_0, ↓lR_0, ↓lJ_0, ↓lI_s, ↓lR_s, ↓lJ_s, ↓okSt_0, ↓okSt_I, ↓okSt_R, ↓okSt_N, ↓okSt_s, ↓rtI_s, ↓rtV_n, ↓brP_t, ↓brP_f, ↓sHelp_pair_0, ↓sHelp_pair_1, ↓rf_0_11, ↓sHelp_pair_4, ↓sHelp_pair_5, ↓sHelp_pair_6, ↓rf_0_3, ↓sHelp_pair_9, ↓rf_3_0, ↓sHelp_pair_12, ↓sHelp_pair_14, ↓sHelp_pair_15, ↓sHelp_pair_18, ↓sHelp_pair_19, ↓sHelp_pair_20, ↓sHelp_pair_21, ↓sHelp_pair_24, ↓sHelp_pair_25, ↓sHelp_pair_28, ↓sHelp_pair_30, ↓sHelp_pair_31, ↓sHelp_pair_32, ↓sHelp_pair_60, ↓sHelp_pair_61, ↓sHelp_pair_64, ↓rf_36_2, ↓sHelp_pair_67, ↓sHelp_pair_68, ↓sHelp_pair_69, ↓sHelp_pair_70, ↓sHelp_pair_71, ↓sHelp_pair_74, ↓rf_36_3, ↓sHelp_pair_77, ↓sHelp_pair_78, ↓sHelp_pair_79, ↓sHelp_pair_80, ↓sHelp_pair_81, ↓sHelp_pair_84, ↓rf_36_1, ↓sHelp_pair_87, ↓sHelp_pair_88, ↓sHelp_pair_89, ↓sHelp_pair_90, ↓sHelp_pair_91, ↓sHelp_pair_92, ↓sHelp_pair_93, ↓sHelp_pair_94, ↓sHelp_pair_97, ↓sHelp_pair_100, ↓sHelp_pair_101, ↓sHelp_pair_102, ↓sHelp_pair_105, ↓sHelp_pair_106, ↓sHelp_pair_109, ↓rf_36_0, ↓sHelp_pair_112, ↓sHelp_pair_113, ↓sHelp_pair_115, ↓sHelp_pair_116, ↓sHelp_pair_117, ↓sHelp_pair_118, ↓sHelp_pair_119, ↓sHelp_pair_120, ↓sHelp_pair_121, ↓sHelp_pair_124, ↓sHelp_pair_126, ↓ln_4, ↓ln_37, ↓ln_38, ↓ln_39, ↓ln_40, List.set_cons_zero, List.set_cons_succ, List.length_cons, List.length_nil, List.contains_cons, List.contains_nil, cat1, brP_d, true_and, and_true, not_false_eq_true, not_true_eq_false, if_true, if_false, Bool.or_false, Bool.false_or, Bool.or_true, Bool.true_or, Bool.false_eq_true, Bool.or_self, false_implies, true_implies, forall_const, and_self, implies_true, true_or, or_true, or_false, false_or, or_self, Classical.not_not, Int.reduceAdd, Int.reduceSub, Int.reduceMul, Int.reduceNeg, Int.reduceToNat, Int.reduceLT, Int.reduceLE, Int.reduceEq, Int.reduceNe, Int.reduceNatCast', Nat.reduceAdd, Nat.reduceSub, Nat.reduceLeDiff, Nat.reduceLT, Nat.reduceEqDiff, Nat.reduceBEq, reduceIte, nx_w, nx_c, up_n, up_s, up_f, ne_eq, Nat.reduceEqDiff, Option.some.injEq, Prod.mk.injEq, exists_eq_left', reduceCtorEq, ob_36]
  refine use_q (t_Log_findForward h i _ ⟨hG.1, h40⟩) ?_
  intro q hq
  have hq' := pkP_in hq
  obtain ⟨hw1, hw2⟩ := hw
  refine ⟨fun c => ⟨KF.rf, q, hq, Or.inl ⟨c, rfl⟩⟩, fun c => ⟨fun c1 => ⟨⟨fun d => ⟨by omega, KF.rf, q, hq, Or.inr ⟨c, Or.inr (Or.inl ⟨d, rfl⟩)⟩⟩, fun d => ⟨by omega, KF.rf, q, hq, Or.inr ⟨c, Or.inr (Or.inr (Or.inl ⟨d, rfl⟩))⟩⟩, fun d => ⟨by omega, KF.rf, q, hq, Or.inr ⟨c, Or.inr (Or.inr (Or.inr (Or.inl ⟨d, rfl⟩)))⟩⟩⟩, fun d => ?_⟩, fun c1 => ⟨KF.rf, q, hq, Or.inr ⟨c, Or.inl ⟨Or.inl (by omega), rfl⟩⟩⟩⟩⟩
  have l := (hG.2.2 q.toNat (by omega)).1
  rw [wr_id (x := w - 3) (by omega) (by omega)]
  refine ⟨by omega, fun e => ⟨KF.rf, q, hq, Or.inr ⟨c, Or.inl ⟨Or.inr (by omega), rfl⟩⟩⟩, fun e => ?_⟩
  rw [wr_id (x := q * 12) (by omega) (by omega), wr_id (x := q * 12 + w) (by omega) (by omega), wr_id (x := q * 12 + w - 3) (by omega) (by omega), show (q * 12 + w - 3).toNat = 12 * q.toNat + (w - 3).toNat by omega]
  exact ⟨by omega, KF.rf, q, hq, Or.inr ⟨c, Or.inr (Or.inr (Or.inr (Or.inr ⟨by omega, rfl⟩)))⟩⟩
-- the reference
set_option maxRecDepth 100000 in
set_option maxHeartbeats 4000000 in
theorem l_Model_put (g h : HP) (hC : CI g) (hG : CLg g) (hm : CM g h) (hmg : CMg g h) (i : Int) : ∀ (d k : Nat) (f : Int), g 36 4 - k < d → (k : Int) ≤ g 36 4 → pkP (fwP (g 4 8) (g 40)) k i f (-1) → Wn Z4 mModel_put SH0 7 [some (.inr (.inr 43)), some (.inl i), some (.inl (cntP (fwP (g 4 8) (g 40)) k)), some (.inl f), some (.inl k)] [] h (rtI (fun x h' => h' = h ∧ pkP (fwP (g 4 8) (g 40)) (g 36 4) i x (-1))) := by
  have h40 := hG.2.1
  have e39 := hmg.1
  have e54 : h 54 8 = g 4 8 := hm.2.2.2.1.1 8 (by decide)
  intro d
  induction d with
  | zero => intro k f h1 h2; omega
  | succ d ih =>
    intro k f h1 h2 h3
    have hin := cntP_in (fwP (g 4 8) (g 40)) k
    have ek : ((k : Int)).toNat = k := by omega
    obtain ⟨n1, n2, n3⟩ := pkP_s (show 0 ≤ (k : Int) by omega) h3
    rw [ek] at n1 n2 n3
    refine go [7] 400 (k := ?_)
    simp (config := {maxSteps := 1000000}) only [↓pI_c, ↓pR_c, ↓pJ_c, ↓pV_c, ↓popN_0, ↓popN_s, ↓lI_0, ↓lR_0, ↓lJ_0, ↓lI_s, ↓lR_s, ↓lJ_s, ↓okSt_0, ↓okSt_I, ↓okSt_R, ↓okSt_N, ↓okSt_s, ↓rtI_s, ↓rtV_n, ↓brP_t, ↓brP_f, ↓sModel_put_0, ↓sModel_put_1, ↓sModel_put_2, ↓sModel_put_3, ↓sModel_put_4, ↓sModel_put_5, ↓sModel_put_7, ↓sModel_put_9, ↓sModel_put_10, ↓rf_43_39, ↓sModel_put_13, ↓sModel_put_16, ↓sModel_put_17, ↓rf_43_43, ↓sModel_put_20, ↓sModel_put_22, ↓sModel_put_23, ↓sModel_put_24, ↓rf_43_14, ↓sModel_put_27, ↓sModel_put_29, ↓sModel_put_30, ↓sModel_put_33, ↓sModel_put_34, ↓sModel_put_35, ↓sModel_put_38, ↓sModel_put_40, ↓sModel_put_43, ↓sModel_put_44, ↓sModel_put_45, ↓sModel_put_48, ↓sModel_put_51, ↓sModel_put_54, ↓sModel_put_55, ↓ln_54, ↓ln_72, List.set_cons_zero, List.set_cons_succ, List.length_cons, List.length_nil, List.contains_cons, List.contains_nil, cat1, brP_d, true_and, and_true, not_false_eq_true, not_true_eq_false, if_true, if_false, Bool.or_false, Bool.false_or, Bool.or_true, Bool.true_or, Bool.false_eq_true, Bool.or_self, false_implies, true_implies, forall_const, and_self, implies_true, true_or, or_true, or_false, false_or, or_self, Classical.not_not, Int.reduceAdd, Int.reduceSub, Int.reduceMul, Int.reduceNeg, Int.reduceToNat, Int.reduceLT, Int.reduceLE, Int.reduceEq, Int.reduceNe, Int.reduceNatCast', Nat.reduceAdd, Nat.reduceSub, Nat.reduceLeDiff, Nat.reduceLT, Nat.reduceEqDiff, Nat.reduceBEq, reduceIte, nx_w, nx_c, up_n, up_s, up_f, ne_eq, Nat.reduceEqDiff, Option.some.injEq, Prod.mk.injEq, exists_eq_left', reduceCtorEq, ek, e39, e54]
    rw [wr_id (x := (k : Int) + 1) (by omega) (by omega), wr_id (x := cntP (fwP (g 4 8) (g 40)) k + 1) (by omega) (by omega)]
    refine ⟨fun c1 => ?_, fun c1 => ?_⟩
    · rw [show g 36 4 = k by omega]
      exact h3
    · have hi := ih (k + 1)
      push_cast at hi
      rw [(hmg.2 k (by omega)).2.2.1]
      refine ⟨by omega, fun c2 => ?_, fun c2 => ?_⟩
      · have hc : ¬ fwP (g 4 8) (g 40) k := fun z => by unfold fwP at z; omega
        rw [cntP_n hc] at hi
        exact hi f (by omega) (by omega) (n1 hc)
      · have hc : fwP (g 4 8) (g 40) k := by unfold fwP; omega
        rw [cntP_y hc] at hi
        exact ⟨fun c3 => hi f (by omega) (by omega) (n3 hc c3), fun c3 => hi k (by omega) (by omega) (n2 hc c3)⟩
set_option maxRecDepth 100000 in
set_option maxHeartbeats 4000000 in
theorem t_Model_put (g h : HP) (hC : CI g) (hG : CLg g) (hm : CM g h) (hmg : CMg g h) (i : Int) : trI mModel_put [.inr (.inr 43), .inl i] SH0 h (fun x h' => h' = h ∧ pkP (fwP (g 4 8) (g 40)) (g 36 4) i x (-1)) := by
  have h0 := hG.1
  refine startI [some (.inr (.inr 43)), some (.inl i), none, none, none] mModel_put_c (go [7] 400 (k := ?_))
  simp (config := {maxSteps := 1000000}) only [↓pI_c, ↓pR_c, ↓pJ_c, ↓pV_c, ↓popN_0, ↓popN_s, ↓lI_0, ↓lR_0, ↓lJ_0, ↓lI_s, ↓lR_s, ↓lJ_s, ↓okSt_0, ↓okSt_I, ↓okSt_R, ↓okSt_N, ↓okSt_s, ↓rtI_s, ↓rtV_n, ↓brP_t, ↓brP_f, ↓sModel_put_0, ↓sModel_put_1, ↓sModel_put_2, ↓sModel_put_3, ↓sModel_put_4, ↓sModel_put_5, ↓sModel_put_7, ↓sModel_put_9, ↓sModel_put_10, ↓rf_43_39, ↓sModel_put_13, ↓sModel_put_16, ↓sModel_put_17, ↓rf_43_43, ↓sModel_put_20, ↓sModel_put_22, ↓sModel_put_23, ↓sModel_put_24, ↓rf_43_14, ↓sModel_put_27, ↓sModel_put_29, ↓sModel_put_30, ↓sModel_put_33, ↓sModel_put_34, ↓sModel_put_35, ↓sModel_put_38, ↓sModel_put_40, ↓sModel_put_43, ↓sModel_put_44, ↓sModel_put_45, ↓sModel_put_48, ↓sModel_put_51, ↓sModel_put_54, ↓sModel_put_55, ↓ln_54, ↓ln_72, List.set_cons_zero, List.set_cons_succ, List.length_cons, List.length_nil, List.contains_cons, List.contains_nil, cat1, brP_d, true_and, and_true, not_false_eq_true, not_true_eq_false, if_true, if_false, Bool.or_false, Bool.false_or, Bool.or_true, Bool.true_or, Bool.false_eq_true, Bool.or_self, false_implies, true_implies, forall_const, and_self, implies_true, true_or, or_true, or_false, false_or, or_self, Classical.not_not, Int.reduceAdd, Int.reduceSub, Int.reduceMul, Int.reduceNeg, Int.reduceToNat, Int.reduceLT, Int.reduceLE, Int.reduceEq, Int.reduceNe, Int.reduceNatCast', Nat.reduceAdd, Nat.reduceSub, Nat.reduceLeDiff, Nat.reduceLT, Nat.reduceEqDiff, Nat.reduceBEq, reduceIte, nx_w, nx_c, up_n, up_s, up_f, ne_eq, Nat.reduceEqDiff, Option.some.injEq, Prod.mk.injEq, exists_eq_left', reduceCtorEq]
  exact l_Model_put g h hC hG hm hmg i ((g 36 4).toNat + 1) 0 (-1) (by push_cast; omega) (by push_cast; omega) (Or.inr ⟨fun w hw => by push_cast at hw; omega, rfl⟩)
set_option maxRecDepth 100000 in
set_option maxHeartbeats 4000000 in
theorem l_Model_forward (g h0 h : HP) (hC : CI g) (hG : CLg g) (hm : CM g h) (hmg : CMg g h) (hs : MS h0 h) : ∀ (d k : Nat), g 36 4 - k < d → (k : Int) ≤ g 36 4 → Wn Z4 mModel_forward SH0 9 [some (.inr (.inr 43)), some (.inl (cntP (fwP (g 4 8) (g 40)) k)), some (.inl k)] [] h (rtI (roM (sFwd g) h0)) := by
  have h40 := hG.2.1
  have e39 := hmg.1
  have e54 : h 54 8 = g 4 8 := hm.2.2.2.1.1 8 (by decide)
  intro d
  induction d with
  | zero => intro k h1 h2; omega
  | succ d ih =>
    intro k h1 h2
    have hin := cntP_in (fwP (g 4 8) (g 40)) k
    have ek : ((k : Int)).toNat = k := by omega
    refine go [9] 400 (k := ?_)
    simp (config := {maxSteps := 1000000}) only [↓pI_c, ↓pR_c, ↓pJ_c, ↓pV_c, ↓popN_0, ↓popN_s, ↓lI_0, ↓lR_0, ↓lJ_0, ↓lI_s, ↓lR_s, ↓lJ_s, ↓okSt_0, ↓okSt_I, ↓okSt_R, ↓okSt_N, ↓okSt_s, ↓rtI_s, ↓rtV_n, ↓brP_t, ↓brP_f, ↓sModel_forward_0, ↓sModel_forward_1, ↓sModel_forward_2, ↓rf_43_0, ↓sModel_forward_5, ↓sModel_forward_6, ↓sModel_forward_7, ↓sModel_forward_8, ↓sModel_forward_9, ↓sModel_forward_10, ↓sModel_forward_11, ↓rf_43_39, ↓sModel_forward_14, ↓sModel_forward_17, ↓sModel_forward_18, ↓sModel_forward_19, ↓rf_43_43, ↓sModel_forward_22, ↓sModel_forward_23, ↓sModel_forward_24, ↓sModel_forward_25, ↓rf_43_14, ↓sModel_forward_28, ↓sModel_forward_30, ↓sModel_forward_31, ↓sModel_forward_34, ↓sModel_forward_35, ↓sModel_forward_38, ↓sModel_forward_39, ↓sModel_forward_40, ↓sModel_forward_41, ↓sModel_forward_44, ↓sModel_forward_47, ↓sModel_forward_48, ↓ln_54, ↓ln_72, List.set_cons_zero, List.set_cons_succ, List.length_cons, List.length_nil, List.contains_cons, List.contains_nil, cat1, brP_d, true_and, and_true, not_false_eq_true, not_true_eq_false, if_true, if_false, Bool.or_false, Bool.false_or, Bool.or_true, Bool.true_or, Bool.false_eq_true, Bool.or_self, false_implies, true_implies, forall_const, and_self, implies_true, true_or, or_true, or_false, false_or, or_self, Classical.not_not, Int.reduceAdd, Int.reduceSub, Int.reduceMul, Int.reduceNeg, Int.reduceToNat, Int.reduceLT, Int.reduceLE, Int.reduceEq, Int.reduceNe, Int.reduceNatCast', Nat.reduceAdd, Nat.reduceSub, Nat.reduceLeDiff, Nat.reduceLT, Nat.reduceEqDiff, Nat.reduceBEq, reduceIte, nx_w, nx_c, up_n, up_s, up_f, ne_eq, Nat.reduceEqDiff, Option.some.injEq, Prod.mk.injEq, exists_eq_left', reduceCtorEq, ek, e39, e54]
    rw [wr_id (x := (k : Int) + 1) (by omega) (by omega)]
    refine ⟨fun c1 => ⟨hs, ?_⟩, fun c1 => ?_⟩
    · have e : (g 36 4).toNat = k := by omega
      unfold sFwd
      rw [e]
    · have hi := ih (k + 1) (by push_cast; omega) (by push_cast; omega)
      push_cast at hi
      rw [(hmg.2 k (by omega)).2.2.1]
      refine ⟨by omega, fun c2 => ?_, fun c2 => ?_⟩
      · have hc : ¬ fwP (g 4 8) (g 40) k := fun z => by unfold fwP at z; omega
        rw [cntP_n hc] at hi
        rw [wr_id (x := cntP (fwP (g 4 8) (g 40)) k + 0) (by omega) (by omega), Int.add_zero]
        exact hi
      · have hc : fwP (g 4 8) (g 40) k := by unfold fwP; omega
        rw [cntP_y hc] at hi
        rw [wr_id (x := cntP (fwP (g 4 8) (g 40)) k + 1) (by omega) (by omega)]
        exact hi
set_option maxRecDepth 100000 in
set_option maxHeartbeats 4000000 in
theorem t_Model_forward (g h : HP) (hC : CI g) (hG : CLg g) (hm : CM g h) (hmg : CMg g h) : trI mModel_forward [.inr (.inr 43)] SH0 h (roM (sFwd g) h) := by
  have h0 := hG.1
  refine startI [some (.inr (.inr 43)), none, none] mModel_forward_c (go [9] 400 (k := ?_))
  simp (config := {maxSteps := 1000000}) only [↓pI_c, ↓pR_c, ↓pJ_c, ↓pV_c, ↓popN_0, ↓popN_s, ↓lI_0, ↓lR_0, ↓lJ_0, ↓lI_s, ↓lR_s, ↓lJ_s, ↓okSt_0, ↓okSt_I, ↓okSt_R, ↓okSt_N, ↓okSt_s, ↓rtI_s, ↓rtV_n, ↓brP_t, ↓brP_f, ↓sModel_forward_0, ↓sModel_forward_1, ↓sModel_forward_2, ↓rf_43_0, ↓sModel_forward_5, ↓sModel_forward_6, ↓sModel_forward_7, ↓sModel_forward_8, ↓sModel_forward_9, ↓sModel_forward_10, ↓sModel_forward_11, ↓rf_43_39, ↓sModel_forward_14, ↓sModel_forward_17, ↓sModel_forward_18, ↓sModel_forward_19, ↓rf_43_43, ↓sModel_forward_22, ↓sModel_forward_23, ↓sModel_forward_24, ↓sModel_forward_25, ↓rf_43_14, ↓sModel_forward_28, ↓sModel_forward_30, ↓sModel_forward_31, ↓sModel_forward_34, ↓sModel_forward_35, ↓sModel_forward_38, ↓sModel_forward_39, ↓sModel_forward_40, ↓sModel_forward_41, ↓sModel_forward_44, ↓sModel_forward_47, ↓sModel_forward_48, ↓ln_54, ↓ln_72, List.set_cons_zero, List.set_cons_succ, List.length_cons, List.length_nil, List.contains_cons, List.contains_nil, cat1, brP_d, true_and, and_true, not_false_eq_true, not_true_eq_false, if_true, if_false, Bool.or_false, Bool.false_or, Bool.or_true, Bool.true_or, Bool.false_eq_true, Bool.or_self, false_implies, true_implies, forall_const, and_self, implies_true, true_or, or_true, or_false, false_or, or_self, Classical.not_not, Int.reduceAdd, Int.reduceSub, Int.reduceMul, Int.reduceNeg, Int.reduceToNat, Int.reduceLT, Int.reduceLE, Int.reduceEq, Int.reduceNe, Int.reduceNatCast', Nat.reduceAdd, Nat.reduceSub, Nat.reduceLeDiff, Nat.reduceLT, Nat.reduceEqDiff, Nat.reduceBEq, reduceIte, nx_w, nx_c, up_n, up_s, up_f, ne_eq, Nat.reduceEqDiff, Option.some.injEq, Prod.mk.injEq, exists_eq_left', reduceCtorEq]
  exact l_Model_forward g h _ hC hG (hm.ms msu0) (hmg.ms msu0) msu0 ((g 36 4).toNat + 1) 0 (by push_cast; omega) (by push_cast; omega)
set_option maxRecDepth 100000 in
set_option maxHeartbeats 4000000 in
theorem t_Model_pair (g h : HP) (hC : CI g) (hG : CLg g) (hm : CM g h) (hmg : CMg g h) (i w : Int) (hw : inR w) : trI mModel_pair [.inr (.inr 43), .inl i, .inl w] SH0 h (roM (sPair i w g) h) := by
  have h40 := hG.2.1
  refine startI [some (.inr (.inr 43)), some (.inl i), some (.inl w), none] mModel_pair_c (go [9999] 400 (k := ?_))
  simp (config := {maxSteps := 1000000}) only [↓pI_c, ↓pR_c, ↓pJ_c, ↓pV_c, ↓popN_0, ↓popN_s, ↓lI_0, ↓lR_0, ↓lJ_0, ↓lI_s, ↓lR_s, ↓lJ_s, ↓okSt_0, ↓okSt_I, ↓okSt_R, ↓okSt_N, ↓okSt_s, ↓rtI_s, ↓rtV_n, ↓brP_t, ↓brP_f, ↓sModel_pair_0, ↓sModel_pair_1, ↓sModel_pair_2, ↓rf_43_0, ↓sModel_pair_5, ↓sModel_pair_6, ↓sModel_pair_7, ↓sModel_pair_10, ↓sModel_pair_11, ↓sModel_pair_12, ↓sModel_pair_13, ↓sModel_pair_16, ↓sModel_pair_17, ↓sModel_pair_20, ↓sModel_pair_21, ↓sModel_pair_22, ↓sModel_pair_23, ↓rf_43_41, ↓sModel_pair_26, ↓sModel_pair_27, ↓sModel_pair_28, ↓sModel_pair_29, ↓sModel_pair_32, ↓sModel_pair_34, ↓sModel_pair_35, ↓sModel_pair_36, ↓sModel_pair_39, ↓sModel_pair_40, ↓rf_43_42, ↓sModel_pair_43, ↓sModel_pair_44, ↓sModel_pair_45, ↓sModel_pair_48, ↓sModel_pair_49, ↓sModel_pair_50, ↓sModel_pair_53, ↓sModel_pair_54, ↓rf_43_43, ↓sModel_pair_57, ↓sModel_pair_58, ↓sModel_pair_59, ↓sModel_pair_62, ↓sModel_pair_63, ↓sModel_pair_64, ↓sModel_pair_67, ↓sModel_pair_68, ↓sModel_pair_71, ↓sModel_pair_72, ↓sModel_pair_73, ↓sModel_pair_76, ↓sModel_pair_77, ↓rf_43_40, ↓sModel_pair_80, ↓sModel_pair_82, ↓sModel_pair_83, ↓sModel_pair_84, ↓sModel_pair_85, ↓sModel_pair_86, ↓sModel_pair_87, ↓sModel_pair_88, ↓sModel_pair_89, ↓sModel_pair_91, ↓sModel_pair_92, ↓ln_69, ↓ln_70, ↓ln_71, ↓ln_72, List.set_cons_zero, List.set_cons_succ, List.length_cons, List.length_nil, List.contains_cons, List.contains_nil, cat1, brP_d, true_and, and_true, not_false_eq_true, not_true_eq_false, if_true, if_false, Bool.or_false, Bool.false_or, Bool.or_true, Bool.true_or, Bool.false_eq_true, Bool.or_self, false_implies, true_implies, forall_const, and_self, implies_true, true_or, or_true, or_false, false_or, or_self, Classical.not_not, Int.reduceAdd, Int.reduceSub, Int.reduceMul, Int.reduceNeg, Int.reduceToNat, Int.reduceLT, Int.reduceLE, Int.reduceEq, Int.reduceNe, Int.reduceNatCast', Nat.reduceAdd, Nat.reduceSub, Nat.reduceLeDiff, Nat.reduceLT, Nat.reduceEqDiff, Nat.reduceBEq, reduceIte, nx_w, nx_c, up_n, up_s, up_f, ne_eq, Nat.reduceEqDiff, Option.some.injEq, Prod.mk.injEq, exists_eq_left', reduceCtorEq, ob_43]
  refine use_q (t_Model_put g _ hC hG (hm.ms msu0) (hmg.ms msu0) i) ?_
  intro q hq
  have hq' := pkP_in hq
  obtain ⟨hw1, hw2⟩ := hw
  have mg := hmg.ms msu0
  have mk : ∀ r, ((q = -1 ∧ r = -2) ∨ (¬ q = -1 ∧ ((w < 0 ∨ 2 + g 38 q.toNat < w) ∧ r = -2 ∨ (w = 0 ∧ r = g 39 q.toNat) ∨ (w = 1 ∧ r = g 40 q.toNat) ∨ (w = 2 ∧ r = g 38 q.toNat) ∨ ((3 ≤ w ∧ w ≤ 2 + g 38 q.toNat) ∧ r = g 37 (12 * q.toNat + (w - 3).toNat))))) → roM (sPair i w g) h r (up h 43 0 0) := fun r hr => ⟨msu0, q, hq, hr⟩
  refine ⟨fun c => mk _ (by omega), fun c => ⟨fun c1 => mk _ (by omega), fun c1 => ⟨by omega, ?_⟩⟩⟩
  have l := (hG.2.2 q.toNat (by omega)).1
  obtain ⟨m1, m2, m3, m4⟩ := mg.2 q.toNat (by omega)
  rw [m1, m2, m3, wr_id (x := 2 + g 38 q.toNat) (by omega) (by omega)]
  refine ⟨fun c2 => ⟨fun c3 => ⟨fun c4 => ⟨fun c5 => ?_, fun c5 => ⟨by omega, mk _ (by omega)⟩⟩, fun c4 => ⟨by omega, mk _ (by omega)⟩⟩, fun c3 => ⟨by omega, mk _ (by omega)⟩⟩, fun c2 => mk _ (by omega)⟩
  rw [wr_id (x := 12 * q) (by omega) (by omega), wr_id (x := 12 * q + w) (by omega) (by omega), wr_id (x := 12 * q + w - 3) (by omega) (by omega), show (12 * q + w - 3).toNat = 12 * q.toNat + (w - 3).toNat by omega, m4 (w - 3).toNat (by omega)]
  have l3 := (hG.2.2 q.toNat (by omega)).2.2 (w - 3).toNat (by omega)
  rw [wr_id (x := g 37 (12 * q.toNat + (w - 3).toNat) + 97 - 97) (by omega) (by omega)]
  exact ⟨by omega, mk _ (by omega)⟩
