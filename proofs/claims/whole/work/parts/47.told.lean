/-! told of both sides -/
def sTold (w : Int) (g : HP) (r : Int) : Prop := (w = 0 ∧ r = mN g) ∨ (w = 8 ∧ r = g 19 6) ∨ (¬ (0 ≤ w ∧ w ≤ 8) ∧ r = -2) ∨ ∃ v c p x, verdR g (mN g) (fun i => mT g i) (mW g) v c p x ∧ ((w = 1 ∧ r = c) ∨ (w = 2 ∧ r = x) ∨ (w = 3 ∧ ∃ fw fd ff, qPr g v r fw fd ff) ∨ (w = 4 ∧ ∃ m ex f, nrG g v r m ex f) ∨ (w = 5 ∧ ∃ rl ex f, nrG g v rl r ex f) ∨ (w = 6 ∧ ∃ rl m f, nrG g v rl m r f) ∨ (w = 7 ∧ r = cntP (comP g v) (g 10 4).toNat))
theorem sTold_uni {g : HP} {w r r' : Int} (h : sTold w g r) (h' : sTold w g r') : r = r' := by
  rcases h with h | h | h | ⟨v, c, p, x, a1, a2⟩
  · rcases h' with h' | h' | h' | ⟨v', c', p', x', b1, b2'⟩ <;> omega
  · rcases h' with h' | h' | h' | ⟨v', c', p', x', b1, b2'⟩ <;> omega
  · rcases h' with h' | h' | h' | ⟨v', c', p', x', b1, b2'⟩ <;> omega
  · rcases h' with h' | h' | h' | ⟨v', c', p', x', b1, b2'⟩
    · omega
    · omega
    · omega
    · obtain ⟨e1, e2, e3⟩ := verdR_uni a1 b1
      subst e1
      subst e2
      subst e3
      rcases a2 with ⟨k, a⟩ | ⟨k, a⟩ | ⟨k, fw, fd, ff, a⟩ | ⟨k, m, ex, f, a⟩ | ⟨k, m, ex, f, a⟩ | ⟨k, m, ex, f, a⟩ | ⟨k, a⟩
      · omega
      · omega
      · rcases b2' with ⟨l, b⟩ | ⟨l, b⟩ | ⟨l, fw', fd', ff', b⟩ | ⟨l, m', ex', f', b⟩ | ⟨l, m', ex', f', b⟩ | ⟨l, m', ex', f', b⟩ | ⟨l, b⟩
        all_goals first | omega | exact (qPr_uni a b).1
      · rcases b2' with ⟨l, b⟩ | ⟨l, b⟩ | ⟨l, fw', fd', ff', b⟩ | ⟨l, m', ex', f', b⟩ | ⟨l, m', ex', f', b⟩ | ⟨l, m', ex', f', b⟩ | ⟨l, b⟩
        all_goals first | omega | exact (nrG_uni a b).1
      · rcases b2' with ⟨l, b⟩ | ⟨l, b⟩ | ⟨l, fw', fd', ff', b⟩ | ⟨l, m', ex', f', b⟩ | ⟨l, m', ex', f', b⟩ | ⟨l, m', ex', f', b⟩ | ⟨l, b⟩
        all_goals first | omega | exact (nrG_uni a b).2.1
      · rcases b2' with ⟨l, b⟩ | ⟨l, b⟩ | ⟨l, fw', fd', ff', b⟩ | ⟨l, m', ex', f', b⟩ | ⟨l, m', ex', f', b⟩ | ⟨l, m', ex', f', b⟩ | ⟨l, b⟩
        all_goals first | omega | exact (nrG_uni a b).2.2.1
      · omega
set_option maxRecDepth 100000 in
set_option maxHeartbeats 4000000 in
theorem t_Help_told (h : HP) (hC : CI h) (w : Int) : trI mHelp_told [.inr (.inr 0), .inl w] SH0 h (roC (sTold w) h) := by
  refine startI [some (.inr (.inr 0)), some (.inl w)] mHelp_told_c (go [9999] 400 (k := ?_))
  simp (config := {maxSteps := 1000000}) only [↓pI_c, ↓pR_c, ↓pJ_c, ↓pV_c, ↓popN_0, ↓popN_s, ↓lI_0, ↓lR_0, ↓lJ_0, ↓lI_s, ↓lR_s, ↓lJ_s, ↓okSt_0, ↓okSt_I, ↓okSt_R, ↓okSt_N, ↓okSt_s, ↓rtI_s, ↓rtV_n, ↓brP_t, ↓brP_f, ↓sHelp_told_0, ↓sHelp_told_1, ↓rf_0_8, ↓sHelp_told_4, ↓sHelp_told_7, ↓sHelp_told_8, ↓sHelp_told_60, ↓sHelp_told_61, ↓sHelp_told_64, ↓rf_24_6, ↓sHelp_told_67, ↓sHelp_told_68, ↓sHelp_told_69, ↓sHelp_told_72, ↓rf_24_8, ↓sHelp_told_75, ↓sHelp_told_76, ↓sHelp_told_77, ↓sHelp_told_80, ↓rf_24_10, ↓sHelp_told_83, ↓sHelp_told_84, ↓sHelp_told_85, ↓rf_0_9, ↓sHelp_told_88, ↓sHelp_told_91, ↓sHelp_told_92, ↓sHelp_told_95, ↓rf_27_5, ↓sHelp_told_98, ↓sHelp_told_99, ↓sHelp_told_100, ↓rf_0_10, ↓sHelp_told_103, ↓sHelp_told_106, ↓sHelp_told_107, ↓sHelp_told_110, ↓rf_33_3, ↓sHelp_told_113, ↓sHelp_told_114, ↓sHelp_told_115, ↓sHelp_told_118, ↓sHelp_told_121, ↓sHelp_told_122, ↓sHelp_told_125, ↓rf_33_4, ↓sHelp_told_128, ↓sHelp_told_129, ↓sHelp_told_130, ↓sHelp_told_133, ↓sHelp_told_136, ↓sHelp_told_137, ↓sHelp_told_140, ↓rf_33_5, ↓sHelp_told_143, ↓sHelp_told_144, ↓sHelp_told_145, ↓sHelp_told_148, ↓sHelp_told_149, ↓sHelp_told_150, ↓rf_0_7, ↓sHelp_told_153, ↓rf_19_6, ↓sHelp_told_156, ↓sHelp_told_157, ↓sHelp_told_159, List.set_cons_zero, List.set_cons_succ, List.length_cons, List.length_nil, List.contains_cons, List.contains_nil, cat1, brP_d, true_and, and_true, not_false_eq_true, not_true_eq_false, if_true, if_false, Bool.or_false, Bool.false_or, Bool.or_true, Bool.true_or, Bool.false_eq_true, Bool.or_self, false_implies, true_implies, forall_const, and_self, implies_true, true_or, or_true, or_false, false_or, or_self, Classical.not_not, Int.reduceAdd, Int.reduceSub, Int.reduceMul, Int.reduceNeg, Int.reduceToNat, Int.reduceLT, Int.reduceLE, Int.reduceEq, Int.reduceNe, Int.reduceNatCast', Nat.reduceAdd, Nat.reduceSub, Nat.reduceLeDiff, Nat.reduceLT, Nat.reduceEqDiff, Nat.reduceBEq, reduceIte, nx_w, nx_c, up_n, up_s, up_f, ne_eq, Nat.reduceEqDiff, Option.some.injEq, Prod.mk.injEq, exists_eq_left', reduceCtorEq, ob_24, ob_27, ob_33, ob_0]
  refine trV_use (t_Read_update h hC) ?_
  intro h1 q1
  have k1 := KF.rd q1.1
  have hr := rd_upd q1
  have hv := hr.2.2
  have e6 := hr.1
  have e19 : h1 19 = h 19 := k1 19 (by decide)
  have a3 : w = 3 → ∃ Q : HP → Prop, trV mProp_update [.inr (.inr 27)] SH0 h1 Q ∧ ∀ h', Q h' → roC (sTold w) h (h' 27 5) h' := fun c => trV_use (t_Prop_update h h1 hC k1 hr) (by
    rintro h2 ⟨p1, p2⟩
    exact ⟨k1.tr p1.kf, Or.inr (Or.inr (Or.inr ⟨_, _, _, _, hv, Or.inr (Or.inr (Or.inl ⟨c, _, _, _, p2⟩))⟩))⟩)
  have a4 : w = 4 → ∃ Q : HP → Prop, trV mNear_update [.inr (.inr 33)] SH0 h1 Q ∧ ∀ h', Q h' → roC (sTold w) h (h' 33 3) h' := fun c => trV_use (t_Near_update h h1 hC k1 hr) (by
    rintro h2 ⟨p1, p2⟩
    exact ⟨k1.tr p1.kf, Or.inr (Or.inr (Or.inr ⟨_, _, _, _, hv, Or.inr (Or.inr (Or.inr (Or.inl ⟨c, _, _, _, p2⟩)))⟩))⟩)
  have a5 : w = 5 → ∃ Q : HP → Prop, trV mNear_update [.inr (.inr 33)] SH0 h1 Q ∧ ∀ h', Q h' → roC (sTold w) h (h' 33 4) h' := fun c => trV_use (t_Near_update h h1 hC k1 hr) (by
    rintro h2 ⟨p1, p2⟩
    exact ⟨k1.tr p1.kf, Or.inr (Or.inr (Or.inr ⟨_, _, _, _, hv, Or.inr (Or.inr (Or.inr (Or.inr (Or.inl ⟨c, _, _, _, p2⟩))))⟩))⟩)
  have a6 : w = 6 → ∃ Q : HP → Prop, trV mNear_update [.inr (.inr 33)] SH0 h1 Q ∧ ∀ h', Q h' → roC (sTold w) h (h' 33 5) h' := fun c => trV_use (t_Near_update h h1 hC k1 hr) (by
    rintro h2 ⟨p1, p2⟩
    exact ⟨k1.tr p1.kf, Or.inr (Or.inr (Or.inr ⟨_, _, _, _, hv, Or.inr (Or.inr (Or.inr (Or.inr (Or.inr (Or.inl ⟨c, _, _, _, p2⟩)))))⟩))⟩)
  have a7 : w = 7 → ∃ Q : Int → HP → Prop, trI mHelp_countHints [.inr (.inr 0)] SH0 h1 Q ∧ ∀ r h', Q r h' → roC (sTold w) h r h' := fun c => use_p (t_Help_countHints h h1 hC k1 hr) ⟨k1, Or.inr (Or.inr (Or.inr ⟨_, _, _, _, hv, Or.inr (Or.inr (Or.inr (Or.inr (Or.inr (Or.inr ⟨c, rfl⟩)))))⟩))⟩
  have bad : ¬ (0 ≤ w ∧ w ≤ 8) → roC (sTold w) h (-2) h1 := fun c => ⟨k1, Or.inr (Or.inr (Or.inl ⟨c, rfl⟩))⟩
  refine ⟨⟨fun c => ⟨k1, Or.inl ⟨c, e6⟩⟩, fun c => ⟨k1, Or.inr (Or.inr (Or.inr ⟨_, _, _, _, hv, Or.inl ⟨c, rfl⟩⟩))⟩, fun c => ⟨k1, Or.inr (Or.inr (Or.inr ⟨_, _, _, _, hv, Or.inr (Or.inl ⟨c, rfl⟩)⟩))⟩, a3, a4, a5, a6, a7, fun c => ⟨k1, Or.inr (Or.inl ⟨c, by rw [e19]⟩)⟩⟩, fun c => bad (by omega)⟩
theorem verd_x {g : HP} {v c p x : Int} (h : verdR g (mN g) (fun i => mT g i) (mW g) v c p x) : (¬ v = 0 → x = -1) ∧ (¬ (2 ≤ v ∧ v ≤ 5) → c = -1) := by
  rcases h with ⟨_, a1, a2, a3⟩ | ⟨a1, a2, a3, a4, _⟩ | ⟨a1, a2, a⟩
  · omega
  · split at a4 <;> omega
  · rcases a with ⟨_, z, z2, z3⟩ | ⟨_, q, _, _, _, z, z2, z3⟩ | ⟨b1, b2', b3, b4, b5⟩
    · omega
    · omega
    · split at b5 <;> omega
set_option maxRecDepth 100000 in
set_option maxHeartbeats 4000000 in
theorem t_Model_told (g h : HP) (hC : CI g) (hm : CM g h) (w : Int) : trI mModel_told [.inr (.inr 43), .inl w] SH0 h (roM (sTold w g) h) := by
  have hm0 := hm.ms msu0
  have hn := mN_in hC.2.2.2.2
  refine startI [some (.inr (.inr 43)), some (.inl w)] mModel_told_c (go [9999] 400 (k := ?_))
  simp (config := {maxSteps := 1000000}) only [↓pI_c, ↓pR_c, ↓pJ_c, ↓pV_c, ↓popN_0, ↓popN_s, ↓lI_0, ↓lR_0, ↓lJ_0, ↓lI_s, ↓lR_s, ↓lJ_s, ↓okSt_0, ↓okSt_I, ↓okSt_R, ↓okSt_N, ↓okSt_s, ↓rtI_s, ↓rtV_n, ↓brP_t, ↓brP_f, ↓sModel_told_0, ↓sModel_told_1, ↓sModel_told_2, ↓rf_43_0, ↓sModel_told_5, ↓sModel_told_6, ↓sModel_told_7, ↓sModel_told_9, ↓sModel_told_12, ↓sModel_told_15, ↓sModel_told_17, ↓sModel_told_18, ↓sModel_told_19, ↓sModel_told_20, ↓sModel_told_23, ↓sModel_told_24, ↓sModel_told_27, ↓sModel_told_28, ↓rf_43_35, ↓sModel_told_31, ↓sModel_told_32, ↓sModel_told_33, ↓sModel_told_35, ↓sModel_told_38, ↓sModel_told_39, ↓sModel_told_42, ↓sModel_told_43, ↓rf_43_49, ↓sModel_told_46, ↓sModel_told_47, ↓sModel_told_48, ↓sModel_told_50, ↓sModel_told_53, ↓sModel_told_54, ↓rf_43_21, ↓sModel_told_57, ↓sModel_told_58, ↓sModel_told_59, ↓sModel_told_60, ↓sModel_told_63, ↓sModel_told_64, ↓sModel_told_67, ↓sModel_told_68, ↓sModel_told_69, ↓sModel_told_72, ↓sModel_told_73, ↓rf_43_45, ↓sModel_told_76, ↓sModel_told_79, ↓sModel_told_80, ↓sModel_told_81, ↓sModel_told_84, ↓sModel_told_85, ↓rf_43_46, ↓sModel_told_88, ↓sModel_told_91, ↓sModel_told_92, ↓rf_43_48, ↓sModel_told_95, ↓sModel_told_96, ↓sModel_told_97, ↓sModel_told_100, ↓sModel_told_101, ↓sModel_told_104, ↓sModel_told_105, ↓rf_43_26, ↓sModel_told_108, ↓sModel_told_111, ↓sModel_told_112, ↓sModel_told_113, ↓sModel_told_116, ↓sModel_told_117, ↓rf_43_29, ↓sModel_told_120, ↓sModel_told_121, ↓sModel_told_122, ↓sModel_told_125, ↓sModel_told_128, ↓sModel_told_129, ↓rf_43_30, ↓sModel_told_132, ↓sModel_told_135, ↓sModel_told_136, ↓sModel_told_139, ↓sModel_told_140, ↓sModel_told_143, ↓sModel_told_146, ↓sModel_told_147, ↓sModel_told_150, ↓sModel_told_153, ↓sModel_told_154, List.set_cons_zero, List.set_cons_succ, List.length_cons, List.length_nil, List.contains_cons, List.contains_nil, cat1, brP_d, true_and, and_true, not_false_eq_true, not_true_eq_false, if_true, if_false, Bool.or_false, Bool.false_or, Bool.or_true, Bool.true_or, Bool.false_eq_true, Bool.or_self, false_implies, true_implies, forall_const, and_self, implies_true, true_or, or_true, or_false, false_or, or_self, Classical.not_not, Int.reduceAdd, Int.reduceSub, Int.reduceMul, Int.reduceNeg, Int.reduceToNat, Int.reduceLT, Int.reduceLE, Int.reduceEq, Int.reduceNe, Int.reduceNatCast', Nat.reduceAdd, Nat.reduceSub, Nat.reduceLeDiff, Nat.reduceLT, Nat.reduceEqDiff, Nat.reduceBEq, reduceIte, nx_w, nx_c, up_n, up_s, up_f, ne_eq, Nat.reduceEqDiff, Option.some.injEq, Prod.mk.injEq, exists_eq_left', reduceCtorEq, ob_43]
  refine use_in (fun e1 => ?_) (fun e1 => ?_)
  · simp only [one_ne, not_false_eq_true, true_implies, false_implies, true_and, and_true]
    refine ⟨fun c1 => ⟨fun c2 => ⟨fun c3 => ⟨fun c4 => ?_, fun c4 => ?_⟩, fun c3 => ⟨msu0, Or.inr (Or.inl ⟨c3, ?_⟩)⟩⟩, fun c2 => ?_⟩, fun c1 => ?_⟩
    · refine trV_use (t_Model_judge g _ hC hm0) ?_
      rintro h1 ⟨q1, q2, q3, q4, p, x, q5⟩
      have hms := msu0.tr q1
      have hvx := verd_x q5
      refine ⟨fun d1 => ⟨fun d2 => ⟨fun d3 => ⟨hms, ?_⟩, fun d3 => ?_⟩, fun d2 => ?_⟩, fun d1 => ⟨hms, Or.inl ⟨d1, q3⟩⟩⟩
      · exact Or.inr (Or.inr (Or.inr ⟨_, _, _, _, q5, Or.inr (Or.inl ⟨by omega, by have := hvx.1 d3; omega⟩)⟩))
      · have ha := (verd_06 hC.2.1 q5 (Or.inl d3))
        refine use_q (t_Model_fitting g h1 hC.1 hC.2.2.1 (hm.ms hms).1 (hm.ms hms).2.2.1 (by rw [q3]; exact hn) (by
          rw [q3]
          intro i hi
          rw [(q4 i hi).2]
          exact wd_in hC.2.1 _)) ?_
        intro y hy
        refine ⟨hms, Or.inr (Or.inr (Or.inr ⟨_, _, _, _, q5, Or.inr (Or.inl ⟨by omega, ?_⟩)⟩))⟩
        unfold fittM at hy
        rw [q3, fitF_wf ha.1.1 (fun i hi => (q4 i hi).2)] at hy
        rcases hy with ⟨_, z⟩ | ⟨z, _⟩
        · exact fitF_uni z ha.2.2.1
        · refine absurd ⟨ha.1.1, fun i hi => ?_⟩ z
          rw [(q4 i hi).2]
          have := ha.1.2.2 i hi
          exact ⟨by omega, this.2⟩
      · refine use_in (fun e2 => ?_) (fun e2 => ?_)
        · simp only [one_ne, not_false_eq_true, true_implies, false_implies, true_and, and_true]
          exact ⟨hms, Or.inr (Or.inr (Or.inr ⟨_, _, _, _, q5, Or.inl ⟨d2, rfl⟩⟩))⟩
        · simp only [not_true_eq_false, true_implies, false_implies, true_and, and_true]
          exact ⟨hms, Or.inr (Or.inr (Or.inr ⟨_, _, _, _, q5, Or.inl ⟨d2, (hvx.2 e2).symm⟩⟩))⟩
    · refine trV_use (t_Model_compare g _ hC hm0) ?_
      rintro h1 ⟨q1, q2, q3, ⟨p, x, q4⟩, q5⟩
      have hms := msu0.tr q1
      refine ⟨fun d1 => ⟨fun d2 => ⟨hms, Or.inr (Or.inr (Or.inr ⟨_, _, _, _, q4, Or.inr (Or.inr (Or.inr (Or.inr (Or.inr (Or.inl ⟨by omega, _, _, _, q5⟩)))))⟩))⟩, fun d2 => ⟨hms, Or.inr (Or.inr (Or.inr ⟨_, _, _, _, q4, Or.inr (Or.inr (Or.inr (Or.inr (Or.inl ⟨by omega, _, _, _, q5⟩))))⟩))⟩⟩, fun d1 => ⟨hms, Or.inr (Or.inr (Or.inr ⟨_, _, _, _, q4, Or.inr (Or.inr (Or.inr (Or.inl ⟨by omega, _, _, _, q5⟩)))⟩))⟩⟩
    · exact hm0.2.2.2.2.2.1
    · refine trV_use (t_Model_hints g _ hC hm0) ?_
      rintro h1 ⟨q1, v, c, p, x, q2, q3, q4⟩
      exact ⟨msu0.tr q1, Or.inr (Or.inr (Or.inr ⟨_, _, _, _, q2, Or.inr (Or.inr (Or.inr (Or.inr (Or.inr (Or.inr ⟨c2, q3⟩)))))⟩))⟩
    · refine trV_use (t_Model_propose g _ hC hm0) ?_
      rintro h1 ⟨q1, q2, q3, ⟨p, x, q4⟩, q5⟩
      exact ⟨msu0.tr q1, Or.inr (Or.inr (Or.inr ⟨_, _, _, _, q4, Or.inr (Or.inr (Or.inl ⟨c1, _, _, _, q5⟩))⟩))⟩
  · simp only [not_true_eq_false, true_implies, false_implies, true_and, and_true]
    exact ⟨msu0, Or.inr (Or.inr (Or.inl ⟨e1, rfl⟩))⟩
