/-! cell: the reference, the class inside the table -/
def bad (h : HP) (i j : Int) : Prop := h 43 52 = -1 ∨ ¬ (0 ≤ i ∧ i ≤ h 43 52) ∨ ¬ (0 ≤ j ∧ j ≤ h 43 53)
set_option maxRecDepth 100000 in
set_option maxHeartbeats 4000000 in
theorem t_Model_thrown (h : HP) : trI mModel_thrown [.inr (.inr 43)] SH0 h (fun r h' => h' = h ∧ r = h 43 0) := by
  refine startI [some (.inr (.inr 43))] mModel_thrown_c (go [9999] 400 (k := ?_))
  simp (config := {maxSteps := 1000000}) only [↓pI_c, ↓pR_c, ↓pJ_c, ↓pV_c, ↓popN_0, ↓popN_s, ↓lI_0, ↓lR_0, ↓lJ_0, ↓lI_s, ↓lR_s, ↓lJ_s, ↓okSt_0, ↓okSt_I, ↓okSt_R, ↓okSt_N, ↓okSt_s, ↓rtI_s, ↓rtV_n, ↓brP_t, ↓brP_f, ↓sModel_thrown_0, ↓sModel_thrown_1, ↓rf_43_0, ↓sModel_thrown_4, List.set_cons_zero, List.set_cons_succ, List.length_cons, List.length_nil, List.contains_cons, List.contains_nil, cat1, brP_d, true_and, and_true, not_false_eq_true, not_true_eq_false, if_true, if_false, Bool.or_false, Bool.false_or, Bool.or_true, Bool.true_or, Bool.false_eq_true, Bool.or_self, false_implies, true_implies, forall_const, and_self, implies_true, true_or, or_true, or_false, false_or, or_self, Classical.not_not, Int.reduceAdd, Int.reduceSub, Int.reduceMul, Int.reduceNeg, Int.reduceToNat, Int.reduceLT, Int.reduceLE, Int.reduceEq, Int.reduceNe, Int.reduceNatCast', Nat.reduceAdd, Nat.reduceSub, Nat.reduceLeDiff, Nat.reduceLT, Nat.reduceEqDiff, Nat.reduceBEq, reduceIte, nx_w, nx_c, up_n, up_s, up_f, ne_eq, Nat.reduceEqDiff, Option.some.injEq, Prod.mk.injEq, exists_eq_left', reduceCtorEq]
set_option maxRecDepth 100000 in
set_option maxHeartbeats 4000000 in
theorem t_Model_cell (h : HP) (i j : Int) (c1 : h 43 52 ≤ 80) (c2' : h 43 52 = -1 ∨ h 43 53 ≤ 12) : trI mModel_cell [.inr (.inr 43), .inl i, .inl j] SH0 h (fun r h' => (bad h i j ∧ r = 0 ∧ h' = up h 43 0 1) ∨ (¬ bad h i j ∧ r = h 76 (13 * i.toNat + j.toNat) ∧ h' = up h 43 0 0)) := by
  refine startI [some (.inr (.inr 43)), some (.inl i), some (.inl j)] mModel_cell_c (go [9999] 400 (k := ?_))
  simp (config := {maxSteps := 1000000}) only [↓pI_c, ↓pR_c, ↓pJ_c, ↓pV_c, ↓popN_0, ↓popN_s, ↓lI_0, ↓lR_0, ↓lJ_0, ↓lI_s, ↓lR_s, ↓lJ_s, ↓okSt_0, ↓okSt_I, ↓okSt_R, ↓okSt_N, ↓okSt_s, ↓rtI_s, ↓rtV_n, ↓brP_t, ↓brP_f, ↓sModel_cell_0, ↓sModel_cell_1, ↓sModel_cell_2, ↓rf_43_0, ↓sModel_cell_5, ↓sModel_cell_6, ↓rf_43_52, ↓sModel_cell_9, ↓sModel_cell_10, ↓sModel_cell_13, ↓sModel_cell_14, ↓sModel_cell_15, ↓sModel_cell_16, ↓sModel_cell_19, ↓sModel_cell_22, ↓sModel_cell_25, ↓sModel_cell_26, ↓sModel_cell_27, ↓sModel_cell_28, ↓rf_43_53, ↓sModel_cell_31, ↓sModel_cell_34, ↓sModel_cell_37, ↓sModel_cell_38, ↓sModel_cell_39, ↓sModel_cell_42, ↓sModel_cell_43, ↓sModel_cell_44, ↓sModel_cell_45, ↓rf_43_51, ↓sModel_cell_48, ↓sModel_cell_50, ↓sModel_cell_51, ↓sModel_cell_52, ↓sModel_cell_53, ↓sModel_cell_54, ↓sModel_cell_55, ↓ln_76, List.set_cons_zero, List.set_cons_succ, List.length_cons, List.length_nil, List.contains_cons, List.contains_nil, cat1, brP_d, true_and, and_true, not_false_eq_true, not_true_eq_false, if_true, if_false, Bool.or_false, Bool.false_or, Bool.or_true, Bool.true_or, Bool.false_eq_true, Bool.or_self, false_implies, true_implies, forall_const, and_self, implies_true, true_or, or_true, or_false, false_or, or_self, Classical.not_not, Int.reduceAdd, Int.reduceSub, Int.reduceMul, Int.reduceNeg, Int.reduceToNat, Int.reduceLT, Int.reduceLE, Int.reduceEq, Int.reduceNe, Int.reduceNatCast', Nat.reduceAdd, Nat.reduceSub, Nat.reduceLeDiff, Nat.reduceLT, Nat.reduceEqDiff, Nat.reduceBEq, reduceIte, nx_w, nx_c, up_n, up_s, up_f, ne_eq, Nat.reduceEqDiff, Option.some.injEq, Prod.mk.injEq, exists_eq_left', reduceCtorEq]
  refine ⟨fun z => Or.inl ⟨Or.inl z, up_up⟩, fun z => ?_⟩
  have c2 := c2'.resolve_left z
  refine use_p (t_Model_in _ i 0 (h 43 52)) ?_
  rw [b2]
  by_cases hi : 0 ≤ i ∧ i ≤ h 43 52
  · rw [if_pos hi]
    refine ⟨fun q => absurd q (by decide), fun _ => ?_⟩
    rw [up_f (by decide)]
    refine use_p (t_Model_in _ j 0 (h 43 53)) ?_
    rw [b2]
    by_cases hj : 0 ≤ j ∧ j ≤ h 43 53
    · rw [if_pos hj]
      refine ⟨fun _ => ?_, fun q => absurd q (by decide)⟩
      rw [wr_id (x := 13 * i) (by omega) (by omega), wr_id (x := 13 * i + j) (by omega) (by omega), up_n (by decide), show (13 * i + j).toNat = 13 * i.toNat + j.toNat by omega]
      refine ⟨by omega, Or.inr ⟨?_, rfl, rfl⟩⟩
      unfold bad
      omega
    · rw [if_neg hj]
      exact ⟨fun q => absurd rfl q, fun _ => Or.inl ⟨Or.inr (Or.inr hj), up_up⟩⟩
  · rw [if_neg hi]
    exact ⟨fun _ => Or.inl ⟨Or.inr (Or.inl hi), up_up⟩, fun q => absurd rfl q⟩
theorem t_Help_cell (h : HP) (i j : Int) (hi : 0 ≤ i ∧ i ≤ h 41 3) (hj : 0 ≤ j ∧ j ≤ h 41 4) (c1 : h 41 3 ≤ 80) (c2 : h 41 4 ≤ 12) : trI mHelp_cell [.inr (.inr 0), .inl i, .inl j] SH0 h (fun r h' => h' = h ∧ r = h 42 (13 * i.toNat + j.toNat)) := by
  refine Tr.of rfl rfl (callAt_ok ca_12_7).2.1 (Nat.le_of_ble_eq_true rfl) ?_
  show Wt mHelp_cell 0 0 0 0 0 [some (.inr (.inr 0)), some (.inl i), some (.inl j)] [] SH0 h _
  refine wt_iload_n (i := 1) rfl dX10_cell_0 ?_
  refine wt_if (tgt := 30) (by decide) dX10_cell_1 (fun z => absurd (show i < 0 from z) (by omega)) (fun _ => ?_)
  refine wt_iload_n (i := 1) rfl dX10_cell_4 ?_
  refine wt_aload_n (i := 0) rfl dX10_cell_5 ?_
  refine wt_getR (k := 0) (q := 41) (rs := [some (some 1), none, some (some 2), some (some 3), some (some 6), some (some 10), some (some 15), some (some 19), some (some 24), some (some 27), some (some 33), some (some 36), some (some 41)]) (fieldAt_ok fa_10_94).1 rfl rfl dX10_cell_6 ?_
  refine wt_getI (k := 41) (rs := [some (some 3), some (some 6), some (some 42), none, none, none]) (fieldAt_ok fa_10_240).1 rfl rfl dX10_cell_9 ?_
  refine wt_icmp (tgt := 30) (by decide) dX10_cell_12 (fun z => absurd (show h 41 3 < i from z) (by omega)) (fun _ => ?_)
  refine wt_iload_n (i := 2) rfl dX10_cell_15 ?_
  refine wt_if (tgt := 30) (by decide) dX10_cell_16 (fun z => absurd (show j < 0 from z) (by omega)) (fun _ => ?_)
  refine wt_iload_n (i := 2) rfl dX10_cell_19 ?_
  refine wt_aload_n (i := 0) rfl dX10_cell_20 ?_
  refine wt_getR (k := 0) (q := 41) (rs := [some (some 1), none, some (some 2), some (some 3), some (some 6), some (some 10), some (some 15), some (some 19), some (some 24), some (some 27), some (some 33), some (some 36), some (some 41)]) (fieldAt_ok fa_10_94).1 rfl rfl dX10_cell_21 ?_
  refine wt_getI (k := 41) (rs := [some (some 3), some (some 6), some (some 42), none, none, none]) (fieldAt_ok fa_10_243).1 rfl rfl dX10_cell_24 ?_
  refine wt_icmp (tgt := 40) (by decide) dX10_cell_27 (fun _ => ?_) (fun z => absurd (show j ≤ h 41 4 from hj.2) z)
  refine wt_aload_n (i := 0) rfl dX10_cell_40 ?_
  refine wt_getR (k := 0) (q := 41) (rs := [some (some 1), none, some (some 2), some (some 3), some (some 6), some (some 10), some (some 15), some (some 19), some (some 24), some (some 27), some (some 33), some (some 36), some (some 41)]) (fieldAt_ok fa_10_94).1 rfl rfl dX10_cell_41 ?_
  refine wt_iload_n (i := 1) rfl dX10_cell_44 ?_
  refine wt_iload_n (i := 2) rfl dX10_cell_45 ?_
  obtain ⟨a1, a2, a3, a4, a5, a6, a7, a8, a9, a10⟩ := callAt_ok ca_10_253
  refine wt_callV (mc' := 0) (ms' := 0) (k := 41) (as := [.inl i, .inl j]) (S := []) (rs := [some (some 3), some (some 6), some (some 42), none, none, none]) ⟨a8 (by decide), a1, a2, a3, a4, a5, a6⟩ (a9 rfl).1 (a9 rfl).2 rfl (by decide) (by decide) (by decide) (Nat.le_refl _) (Nat.le_refl _) (t_Table_cost41 h i j (by omega) (by omega)) dX10_cell_46 ?_
  rintro v sh' h' ⟨rfl, hq⟩
  obtain ⟨r, rfl, rfl, rfl⟩ := rtI_ex hq
  exact wt_ireturn (Or.inl rfl) dX10_cell_49 ⟨rfl, rfl, rfl⟩
