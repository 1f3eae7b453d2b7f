/-! the reference's judge, whole; look of both sides -/
theorem qJudge_of {g h h1 h2 h' : HP} (hL : CL0 g) (p1 : prF h h1) (p2 : qTyp g h1) (q1 : jF (up h1 43 26 0) h2) (q2 : mArrM g h2 (g 19 5).toNat) (e1 : ∀ a, a ≠ 43 → h' a = h2 a) (e2 : ∀ b, b ≠ 29 → b ≠ 30 → h' 43 b = h2 43 b) {p x : Int} (hv : verdR g (h2 43 26) (h2 62) (h2 63) (h' 43 29) (h' 43 30) p x) : qJudge g h h' := by
  have m1 : MS h (up h1 43 26 0) := (MS.prF p1).up (by decide) rfl
  have j2 : jF (up h1 43 26 0) h' := ⟨fun a a1 a2 a3 => (e1 a a1).trans (q1.1 a a1 a2 a3), fun b b1 b2 b3 => (e2 b b2 b3).trans (q1.2 b b1 b2 b3)⟩
  have t1 : qTyp g (up h1 43 26 0) := by
    refine ⟨by rw [up_f (by decide)]; exact p2.1, fun k hk => ?_⟩
    rw [up_n (by decide), up_n (by decide), up_n (by decide)]
    exact p2.2 k hk
  have hn := mN_in hL
  have en : h2 43 26 = mN g := q2.1
  have ea : ∀ i : Nat, (i : Int) < mN g → h2 62 i = mT g i ∧ h2 63 i = mW g i := fun i hi => by
    unfold mN at hi
    exact q2.2 i (by omega)
  refine ⟨m1.tr (MS.jF j2), t1.jF j2, by rw [e2 26 (by decide) (by decide)]; exact en, fun i hi => by rw [e1 62 (by decide), e1 63 (by decide)]; exact ea i hi, p, x, ?_⟩
  rw [en] at hv
  exact verdR_wf hn.1 ea hv
set_option maxRecDepth 100000 in
set_option maxHeartbeats 4000000 in
theorem t_Model_judge (g h : HP) (hC : CI g) (hm : CM g h) : trV mModel_judge [.inr (.inr 43)] SH0 h (qJudge g h) := by
  have hL := hC.2.2.2.2
  have hW := hC.1
  have hN := hC.2.1
  have hR := hC.2.2.1
  refine startV [some (.inr (.inr 43)), none, none, none] mModel_judge_c (go [11] 400 (k := ?_))
  simp (config := {maxSteps := 1000000}) only [↓pI_c, ↓pR_c, ↓pJ_c, ↓pV_c, ↓popN_0, ↓popN_s, ↓lI_0, ↓lR_0, ↓lJ_0, ↓lI_s, ↓lR_s, ↓lJ_s, ↓okSt_0, ↓okSt_I, ↓okSt_R, ↓okSt_N, ↓okSt_s, ↓rtI_s, ↓rtV_n, ↓brP_t, ↓brP_f, ↓sModel_judge_0, ↓sModel_judge_1, ↓sModel_judge_4, ↓sModel_judge_5, ↓sModel_judge_6, ↓rf_43_26, ↓sModel_judge_9, ↓sModel_judge_10, ↓sModel_judge_11, ↓sModel_judge_12, ↓sModel_judge_13, ↓rf_43_22, ↓sModel_judge_16, ↓sModel_judge_19, ↓sModel_judge_20, ↓rf_43_25, ↓sModel_judge_23, ↓sModel_judge_24, ↓sModel_judge_25, ↓sModel_judge_26, ↓sModel_judge_29, ↓sModel_judge_30, ↓rf_43_2, ↓sModel_judge_33, ↓sModel_judge_34, ↓sModel_judge_37, ↓sModel_judge_38, ↓sModel_judge_39, ↓sModel_judge_40, ↓sModel_judge_41, ↓sModel_judge_44, ↓sModel_judge_45, ↓rf_43_27, ↓sModel_judge_48, ↓sModel_judge_49, ↓sModel_judge_52, ↓sModel_judge_53, ↓sModel_judge_54, ↓sModel_judge_55, ↓rf_43_28, ↓sModel_judge_58, ↓sModel_judge_59, ↓sModel_judge_62, ↓sModel_judge_63, ↓sModel_judge_66, ↓sModel_judge_67, ↓sModel_judge_68, ↓sModel_judge_69, ↓sModel_judge_70, ↓sModel_judge_71, ↓sModel_judge_74, ↓sModel_judge_75, ↓sModel_judge_76, ↓sModel_judge_79, ↓sModel_judge_82, ↓sModel_judge_85, ↓sModel_judge_86, ↓sModel_judge_87, ↓rf_43_30, ↓sModel_judge_90, ↓sModel_judge_91, ↓sModel_judge_92, ↓sModel_judge_93, ↓sModel_judge_94, ↓sModel_judge_95, ↓sModel_judge_98, ↓sModel_judge_99, ↓sModel_judge_100, ↓sModel_judge_101, ↓sModel_judge_102, ↓sModel_judge_105, ↓sModel_judge_106, ↓sModel_judge_109, ↓sModel_judge_110, ↓sModel_judge_111, ↓sModel_judge_112, ↓sModel_judge_115, ↓sModel_judge_118, ↓sModel_judge_119, ↓sModel_judge_120, ↓sModel_judge_123, ↓sModel_judge_124, ↓sModel_judge_125, ↓sModel_judge_128, ↓sModel_judge_131, ↓sModel_judge_132, ↓sModel_judge_133, ↓sModel_judge_136, ↓sModel_judge_137, ↓sModel_judge_138, ↓sModel_judge_141, ↓sModel_judge_144, ↓sModel_judge_145, ↓sModel_judge_148, ↓sModel_judge_149, ↓sModel_judge_150, ↓sModel_judge_151, ↓sModel_judge_154, ↓sModel_judge_157, ↓sModel_judge_158, ↓sModel_judge_161, ↓sModel_judge_164, ↓sModel_judge_165, ↓sModel_judge_166, ↓rf_43_29, ↓sModel_judge_169, ↓sModel_judge_172, ↓sModel_judge_173, ↓sModel_judge_176, ↓sModel_judge_177, ↓sModel_judge_178, ↓sModel_judge_179, ↓sModel_judge_182, ↓sModel_judge_183, ↓sModel_judge_186, ↓sModel_judge_187, ↓sModel_judge_190, ↓sModel_judge_193, ↓sModel_judge_194, ↓sModel_judge_197, ↓sModel_judge_198, ↓sModel_judge_201, ↓sModel_judge_202, ↓sModel_judge_203, ↓sModel_judge_204, ↓sModel_judge_207, ↓sModel_judge_208, ↓sModel_judge_209, ↓sModel_judge_212, ↓sModel_judge_213, ↓sModel_judge_214, ↓sModel_judge_217, ↓sModel_judge_218, ↓sModel_judge_219, ↓sModel_judge_222, ↓sModel_judge_225, ↓sModel_judge_226, ↓sModel_judge_227, ↓sModel_judge_230, ↓sModel_judge_231, ↓sModel_judge_232, ↓sModel_judge_235, ↓sModel_judge_236, ↓sModel_judge_237, ↓sModel_judge_240, ↓sModel_judge_243, ↓sModel_judge_244, ↓sModel_judge_245, ↓sModel_judge_248, ↓sModel_judge_249, ↓sModel_judge_252, ↓sModel_judge_253, ↓sModel_judge_256, ↓sModel_judge_258, ↓sModel_judge_261, ↓ln_44, ↓ln_61, ↓ln_62, ↓ln_63, List.set_cons_zero, List.set_cons_succ, List.length_cons, List.length_nil, List.contains_cons, List.contains_nil, cat1, brP_d, true_and, and_true, not_false_eq_true, not_true_eq_false, if_true, if_false, Bool.or_false, Bool.false_or, Bool.or_true, Bool.true_or, Bool.false_eq_true, Bool.or_self, false_implies, true_implies, forall_const, and_self, implies_true, true_or, or_true, or_false, false_or, or_self, Classical.not_not, Int.reduceAdd, Int.reduceSub, Int.reduceMul, Int.reduceNeg, Int.reduceToNat, Int.reduceLT, Int.reduceLE, Int.reduceEq, Int.reduceNe, Int.reduceNatCast', Nat.reduceAdd, Nat.reduceSub, Nat.reduceLeDiff, Nat.reduceLT, Nat.reduceEqDiff, Nat.reduceBEq, reduceIte, nx_w, nx_c, up_n, up_s, up_f, ne_eq, Nat.reduceEqDiff, Option.some.injEq, Prod.mk.injEq, exists_eq_left', reduceCtorEq, ob_43]
  refine trV_use (t_Model_partG g h hC hm) ?_
  rintro h1 ⟨p1, p2⟩
  have m1 : MS h (up h1 43 26 0) := (MS.prF p1).up (by decide) rfl
  have hm1 : CM g (up h1 43 26 0) := hm.ms m1
  have t1 : qTyp g (up h1 43 26 0) := by
    refine ⟨by rw [up_f (by decide)]; exact p2.1, fun k hk => ?_⟩
    rw [up_n (by decide), up_n (by decide), up_n (by decide)]
    exact p2.2 k hk
  have h5 := hL.2.2.2.1.1
  refine j1_Model_judge g (up h1 43 26 0) hC hm1 t1 _ ?_ ((g 19 5).toNat + 1) 0 _ _ _ (by omega) (by omega) h5 jF.rf ⟨by rw [up_s]; rfl, fun i hi => absurd hi (Nat.not_lt_zero i)⟩
  intro k h2 x2 x3 q1 q2
  have hm2 : CM g h2 := hm1.ms (MS.jF q1)
  have hn := mN_in hL
  have en : h2 43 26 = mN g := q2.1
  have ea : ∀ i : Nat, (i : Int) < h2 43 26 → h2 62 i = mT g i ∧ h2 63 i = mW g i := fun i hi => by
    rw [en] at hi
    unfold mN at hi
    exact q2.2 i (by omega)
  have hw : ∀ i : Nat, (i : Int) < h2 43 26 → h2 63 i = -1 ∨ (0 ≤ h2 63 i ∧ h2 63 i < g 10 4) := fun i hi => by rw [(ea i hi).2]; exact wd_in hN _
  have hn2 : 0 ≤ h2 43 26 ∧ h2 43 26 ≤ 10 := by rw [en]; exact hn
  refine go [101] 400 (k := ?_)
  simp (config := {maxSteps := 1000000}) only [↓pI_c, ↓pR_c, ↓pJ_c, ↓pV_c, ↓popN_0, ↓popN_s, ↓lI_0, ↓lR_0, ↓lJ_0, ↓lI_s, ↓lR_s, ↓lJ_s, ↓okSt_0, ↓okSt_I, ↓okSt_R, ↓okSt_N, ↓okSt_s, ↓rtI_s, ↓rtV_n, ↓brP_t, ↓brP_f, ↓sModel_judge_0, ↓sModel_judge_1, ↓sModel_judge_4, ↓sModel_judge_5, ↓sModel_judge_6, ↓rf_43_26, ↓sModel_judge_9, ↓sModel_judge_10, ↓sModel_judge_11, ↓sModel_judge_12, ↓sModel_judge_13, ↓rf_43_22, ↓sModel_judge_16, ↓sModel_judge_19, ↓sModel_judge_20, ↓rf_43_25, ↓sModel_judge_23, ↓sModel_judge_24, ↓sModel_judge_25, ↓sModel_judge_26, ↓sModel_judge_29, ↓sModel_judge_30, ↓rf_43_2, ↓sModel_judge_33, ↓sModel_judge_34, ↓sModel_judge_37, ↓sModel_judge_38, ↓sModel_judge_39, ↓sModel_judge_40, ↓sModel_judge_41, ↓sModel_judge_44, ↓sModel_judge_45, ↓rf_43_27, ↓sModel_judge_48, ↓sModel_judge_49, ↓sModel_judge_52, ↓sModel_judge_53, ↓sModel_judge_54, ↓sModel_judge_55, ↓rf_43_28, ↓sModel_judge_58, ↓sModel_judge_59, ↓sModel_judge_62, ↓sModel_judge_63, ↓sModel_judge_66, ↓sModel_judge_67, ↓sModel_judge_68, ↓sModel_judge_69, ↓sModel_judge_70, ↓sModel_judge_71, ↓sModel_judge_74, ↓sModel_judge_75, ↓sModel_judge_76, ↓sModel_judge_79, ↓sModel_judge_82, ↓sModel_judge_85, ↓sModel_judge_86, ↓sModel_judge_87, ↓rf_43_30, ↓sModel_judge_90, ↓sModel_judge_91, ↓sModel_judge_92, ↓sModel_judge_93, ↓sModel_judge_94, ↓sModel_judge_95, ↓sModel_judge_98, ↓sModel_judge_99, ↓sModel_judge_100, ↓sModel_judge_101, ↓sModel_judge_102, ↓sModel_judge_105, ↓sModel_judge_106, ↓sModel_judge_109, ↓sModel_judge_110, ↓sModel_judge_111, ↓sModel_judge_112, ↓sModel_judge_115, ↓sModel_judge_118, ↓sModel_judge_119, ↓sModel_judge_120, ↓sModel_judge_123, ↓sModel_judge_124, ↓sModel_judge_125, ↓sModel_judge_128, ↓sModel_judge_131, ↓sModel_judge_132, ↓sModel_judge_133, ↓sModel_judge_136, ↓sModel_judge_137, ↓sModel_judge_138, ↓sModel_judge_141, ↓sModel_judge_144, ↓sModel_judge_145, ↓sModel_judge_148, ↓sModel_judge_149, ↓sModel_judge_150, ↓sModel_judge_151, ↓sModel_judge_154, ↓sModel_judge_157, ↓sModel_judge_158, ↓sModel_judge_161, ↓sModel_judge_164, ↓sModel_judge_165, ↓sModel_judge_166, ↓rf_43_29, ↓sModel_judge_169, ↓sModel_judge_172, ↓sModel_judge_173, ↓sModel_judge_176, ↓sModel_judge_177, ↓sModel_judge_178, ↓sModel_judge_179, ↓sModel_judge_182, ↓sModel_judge_183, ↓sModel_judge_186, ↓sModel_judge_187, ↓sModel_judge_190, ↓sModel_judge_193, ↓sModel_judge_194, ↓sModel_judge_197, ↓sModel_judge_198, ↓sModel_judge_201, ↓sModel_judge_202, ↓sModel_judge_203, ↓sModel_judge_204, ↓sModel_judge_207, ↓sModel_judge_208, ↓sModel_judge_209, ↓sModel_judge_212, ↓sModel_judge_213, ↓sModel_judge_214, ↓sModel_judge_217, ↓sModel_judge_218, ↓sModel_judge_219, ↓sModel_judge_222, ↓sModel_judge_225, ↓sModel_judge_226, ↓sModel_judge_227, ↓sModel_judge_230, ↓sModel_judge_231, ↓sModel_judge_232, ↓sModel_judge_235, ↓sModel_judge_236, ↓sModel_judge_237, ↓sModel_judge_240, ↓sModel_judge_243, ↓sModel_judge_244, ↓sModel_judge_245, ↓sModel_judge_248, ↓sModel_judge_249, ↓sModel_judge_252, ↓sModel_judge_253, ↓sModel_judge_256, ↓sModel_judge_258, ↓sModel_judge_261, ↓ln_44, ↓ln_61, ↓ln_62, ↓ln_63, List.set_cons_zero, List.set_cons_succ, List.length_cons, List.length_nil, List.contains_cons, List.contains_nil, cat1, brP_d, true_and, and_true, not_false_eq_true, not_true_eq_false, if_true, if_false, Bool.or_false, Bool.false_or, Bool.or_true, Bool.true_or, Bool.false_eq_true, Bool.or_self, false_implies, true_implies, forall_const, and_self, implies_true, true_or, or_true, or_false, false_or, or_self, Classical.not_not, Int.reduceAdd, Int.reduceSub, Int.reduceMul, Int.reduceNeg, Int.reduceToNat, Int.reduceLT, Int.reduceLE, Int.reduceEq, Int.reduceNe, Int.reduceNatCast', Nat.reduceAdd, Nat.reduceSub, Nat.reduceLeDiff, Nat.reduceLT, Nat.reduceEqDiff, Nat.reduceBEq, reduceIte, nx_w, nx_c, up_n, up_s, up_f, ne_eq, Nat.reduceEqDiff, Option.some.injEq, Prod.mk.injEq, exists_eq_left', reduceCtorEq, ob_43]
  rw [wr_id (x := h2 43 26 - 1) (by omega) (by omega)]
  refine j2_Model_judge g h2 hW hm2.1 hn2 hw _ ?_ ((h2 43 26).toNat + 1) (h2 43 26 - 1) 0 (-1) (-1) (by omega) (by omega) (by omega) ⟨by rw [show h2 43 26 - 1 + 1 = h2 43 26 by omega]; omega, by omega, by omega, Or.inl ⟨rfl, rfl⟩, fun _ j j1 j2 => by omega⟩ (Or.inl ⟨rfl, fun j j1 j2 => by omega⟩)
  intro c o ab k' sA sO
  have fin : ∀ h' : HP, (∀ a, a ≠ 43 → h' a = h2 a) → (∀ b, b ≠ 29 → b ≠ 30 → h' 43 b = h2 43 b) → (∃ p x, verdR g (h2 43 26) (h2 62) (h2 63) (h' 43 29) (h' 43 30) p x) → qJudge g h h' := fun h' e1 e2 ⟨p, x, hv⟩ => qJudge_of hL p1 p2 q1 q2 e1 e2 hv
  refine go [9999] 400 (k := ?_)
  simp (config := {maxSteps := 1000000}) only [↓pI_c, ↓pR_c, ↓pJ_c, ↓pV_c, ↓popN_0, ↓popN_s, ↓lI_0, ↓lR_0, ↓lJ_0, ↓lI_s, ↓lR_s, ↓lJ_s, ↓okSt_0, ↓okSt_I, ↓okSt_R, ↓okSt_N, ↓okSt_s, ↓rtI_s, ↓rtV_n, ↓brP_t, ↓brP_f, ↓sModel_judge_0, ↓sModel_judge_1, ↓sModel_judge_4, ↓sModel_judge_5, ↓sModel_judge_6, ↓rf_43_26, ↓sModel_judge_9, ↓sModel_judge_10, ↓sModel_judge_11, ↓sModel_judge_12, ↓sModel_judge_13, ↓rf_43_22, ↓sModel_judge_16, ↓sModel_judge_19, ↓sModel_judge_20, ↓rf_43_25, ↓sModel_judge_23, ↓sModel_judge_24, ↓sModel_judge_25, ↓sModel_judge_26, ↓sModel_judge_29, ↓sModel_judge_30, ↓rf_43_2, ↓sModel_judge_33, ↓sModel_judge_34, ↓sModel_judge_37, ↓sModel_judge_38, ↓sModel_judge_39, ↓sModel_judge_40, ↓sModel_judge_41, ↓sModel_judge_44, ↓sModel_judge_45, ↓rf_43_27, ↓sModel_judge_48, ↓sModel_judge_49, ↓sModel_judge_52, ↓sModel_judge_53, ↓sModel_judge_54, ↓sModel_judge_55, ↓rf_43_28, ↓sModel_judge_58, ↓sModel_judge_59, ↓sModel_judge_62, ↓sModel_judge_63, ↓sModel_judge_66, ↓sModel_judge_67, ↓sModel_judge_68, ↓sModel_judge_69, ↓sModel_judge_70, ↓sModel_judge_71, ↓sModel_judge_74, ↓sModel_judge_75, ↓sModel_judge_76, ↓sModel_judge_79, ↓sModel_judge_82, ↓sModel_judge_85, ↓sModel_judge_86, ↓sModel_judge_87, ↓rf_43_30, ↓sModel_judge_90, ↓sModel_judge_91, ↓sModel_judge_92, ↓sModel_judge_93, ↓sModel_judge_94, ↓sModel_judge_95, ↓sModel_judge_98, ↓sModel_judge_99, ↓sModel_judge_100, ↓sModel_judge_101, ↓sModel_judge_102, ↓sModel_judge_105, ↓sModel_judge_106, ↓sModel_judge_109, ↓sModel_judge_110, ↓sModel_judge_111, ↓sModel_judge_112, ↓sModel_judge_115, ↓sModel_judge_118, ↓sModel_judge_119, ↓sModel_judge_120, ↓sModel_judge_123, ↓sModel_judge_124, ↓sModel_judge_125, ↓sModel_judge_128, ↓sModel_judge_131, ↓sModel_judge_132, ↓sModel_judge_133, ↓sModel_judge_136, ↓sModel_judge_137, ↓sModel_judge_138, ↓sModel_judge_141, ↓sModel_judge_144, ↓sModel_judge_145, ↓sModel_judge_148, ↓sModel_judge_149, ↓sModel_judge_150, ↓sModel_judge_151, ↓sModel_judge_154, ↓sModel_judge_157, ↓sModel_judge_158, ↓sModel_judge_161, ↓sModel_judge_164, ↓sModel_judge_165, ↓sModel_judge_166, ↓rf_43_29, ↓sModel_judge_169, ↓sModel_judge_172, ↓sModel_judge_173, ↓sModel_judge_176, ↓sModel_judge_177, ↓sModel_judge_178, ↓sModel_judge_179, ↓sModel_judge_182, ↓sModel_judge_183, ↓sModel_judge_186, ↓sModel_judge_187, ↓sModel_judge_190, ↓sModel_judge_193, ↓sModel_judge_194, ↓sModel_judge_197, ↓sModel_judge_198, ↓sModel_judge_201, ↓sModel_judge_202, ↓sModel_judge_203, ↓sModel_judge_204, ↓sModel_judge_207, ↓sModel_judge_208, ↓sModel_judge_209, ↓sModel_judge_212, ↓sModel_judge_213, ↓sModel_judge_214, ↓sModel_judge_217, ↓sModel_judge_218, ↓sModel_judge_219, ↓sModel_judge_222, ↓sModel_judge_225, ↓sModel_judge_226, ↓sModel_judge_227, ↓sModel_judge_230, ↓sModel_judge_231, ↓sModel_judge_232, ↓sModel_judge_235, ↓sModel_judge_236, ↓sModel_judge_237, ↓sModel_judge_240, ↓sModel_judge_243, ↓sModel_judge_244, ↓sModel_judge_245, ↓sModel_judge_248, ↓sModel_judge_249, ↓sModel_judge_252, ↓sModel_judge_253, ↓sModel_judge_256, ↓sModel_judge_258, ↓sModel_judge_261, ↓ln_44, ↓ln_61, ↓ln_62, ↓ln_63, List.set_cons_zero, List.set_cons_succ, List.length_cons, List.length_nil, List.contains_cons, List.contains_nil, cat1, brP_d, true_and, and_true, not_false_eq_true, not_true_eq_false, if_true, if_false, Bool.or_false, Bool.false_or, Bool.or_true, Bool.true_or, Bool.false_eq_true, Bool.or_self, false_implies, true_implies, forall_const, and_self, implies_true, true_or, or_true, or_false, false_or, or_self, Classical.not_not, Int.reduceAdd, Int.reduceSub, Int.reduceMul, Int.reduceNeg, Int.reduceToNat, Int.reduceLT, Int.reduceLE, Int.reduceEq, Int.reduceNe, Int.reduceNatCast', Nat.reduceAdd, Nat.reduceSub, Nat.reduceLeDiff, Nat.reduceLT, Nat.reduceEqDiff, Nat.reduceBEq, reduceIte, nx_w, nx_c, up_n, up_s, up_f, ne_eq, Nat.reduceEqDiff, Option.some.injEq, Prod.mk.injEq, exists_eq_left', reduceCtorEq, ob_43]
  have hcnt := cntE_le (h2 63) (-1) (h2 43 26).toNat
  obtain ⟨a1, a2, a3, a4, a5⟩ := sA
  have ec : c = cntE (h2 63) (-1) (h2 43 26).toNat := by rw [← a1]; simp [cntE]
  have fu : ∀ v, ∀ a, a ≠ 43 → up (up h2 43 30 ab) 43 29 v a = h2 a := fun v a ha => by rw [up_ne ha, up_ne ha]
  have fb : ∀ v, ∀ b, b ≠ 29 → b ≠ 30 → up (up h2 43 30 ab) 43 29 v 43 b = h2 43 b := fun v b b1 b2 => by rw [up_f b1, up_f b2]
  have fu' : ∀ v y, ∀ a, a ≠ 43 → up (up (up h2 43 30 ab) 43 29 v) 43 30 y a = h2 a := fun v y a ha => by rw [up_ne ha, up_ne ha, up_ne ha]
  have fb' : ∀ v y, ∀ b, b ≠ 29 → b ≠ 30 → up (up (up h2 43 30 ab) 43 29 v) 43 30 y 43 b = h2 43 b := fun v y b b1 b2 => by rw [up_f b2, up_f b1, up_f b2]
  have e30 : ∀ v, up (up h2 43 30 ab) 43 29 v 43 30 = ab := fun v => by rw [up_f (by decide), up_s]
  have e29 : ∀ v, up (up h2 43 30 ab) 43 29 v 43 29 = v := fun v => up_s
  have e30' : ∀ v y, up (up (up h2 43 30 ab) 43 29 v) 43 30 y 43 30 = y := fun v y => up_s
  have e29' : ∀ v y, up (up (up h2 43 30 ab) 43 29 v) 43 30 y 43 29 = v := fun v y => by rw [up_f (by decide), up_s]
  refine ⟨fun h6 => ⟨fun h7 => ?_, fun h7 => ?_⟩, fun h6 => ?_⟩
  · have hpos : 0 < h2 43 26 := by omega
    have hc0 : cntE (h2 63) (-1) (h2 43 26).toNat = 0 := by omega
    have hk := cntE_0 _ hc0
    have hw' : ∀ m : Nat, (m : Int) < h2 43 26 → 0 ≤ h2 63 m ∧ h2 63 m < g 10 4 := fun m hm' => by
      rcases hw m hm' with z | z
      · exact absurd z (hk m (by omega))
      · exact z
    have h60 := hW.2.1
    have h63 := hw' 0 (by omega)
    have e44 : h2 44 (h2 63 0).toNat = g 11 (h2 63 0).toNat := (hm2.1.2 _ (by omega)).1
    rw [e44]
    have eab : ab = -1 := by
      rcases a4 with z | z
      · exact z.2
      · have := z.1; omega
    refine ⟨by omega, fun h8 => ⟨fun h9 => ?_, fun h9 => ?_⟩, fun h8 => ?_⟩
    · have hall : ∀ m : Nat, (m : Int) < h2 43 26 → ¬ g 13 (h2 63 m).toNat = 0 := by
        rcases sO with ⟨_, z⟩ | ⟨q, z1, z2, z3, z4, z5, z6⟩
        · intro m hm'
          rcases z m (by omega) hm' with y | y
          · exact absurd y (hk m (by omega))
          · exact y
        · exfalso
          rw [h9, (ea q z1).1] at z5
          omega
      have hm3 : CM g (up h2 43 30 ab) := hm2.ms (MS.rf.up (by decide) rfl)
      have k26 : up h2 43 30 ab 43 26 = h2 43 26 := up_f (by decide)
      have k63 : up h2 43 30 ab 63 = h2 63 := up_ne (by decide)
      refine trI_use (t_Model_fitting g (up h2 43 30 ab) hW hR hm3.1 hm3.2.2.1 (by rw [k26]; exact hn2) (by rw [k26, k63]; exact hw)) ?_
      rintro r h' ⟨rfl, hf⟩
      rw [k26, k63] at hf
      have hg : gdW g (h2 63) (h2 43 26) := ⟨hpos, fun i hi => ⟨hk i (by omega), hall i hi⟩⟩
      have hf2 : fitF g (h2 63) (h2 43 26) r := by
        rcases hf with z | z
        · exact z.2
        · exact absurd hg z.1
      refine ⟨fun hr => fin _ (fu 6) (fb 6) ⟨0, r, ?_⟩, fun hr => fin _ (fu 0) (fb 0) ⟨0, r, ?_⟩⟩
      · rw [e29, e30]
        exact Or.inr (Or.inr ⟨hpos, hc0, Or.inr (Or.inr ⟨⟨h63.1, h63.2, h8⟩, hall, eab, hf2, by rw [if_pos hr]⟩)⟩)
      · rw [e29, e30]
        exact Or.inr (Or.inr ⟨hpos, hc0, Or.inr (Or.inr ⟨⟨h63.1, h63.2, h8⟩, hall, eab, hf2, by rw [if_neg hr]⟩)⟩)
    · refine fin _ (fu' 5 o) (fb' 5 o) ⟨0, -1, ?_⟩
      rw [e29', e30']
      rcases sO with ⟨z, _⟩ | ⟨q, z1, z2, z3, z4, z5, z6⟩
      · exact absurd z h9
      · refine Or.inr (Or.inr ⟨hpos, hc0, Or.inr (Or.inl ⟨⟨h63.1, h63.2, h8⟩, q, z1, z4, fun j hj => ?_, rfl, z5, rfl⟩)⟩)
        rcases z6 j (by omega) hj with y | y
        · exact absurd y (hk j (by omega))
        · exact y
    · refine fin _ (fu' 4 _) (fb' 4 _) ⟨0, -1, ?_⟩
      rw [e29', e30']
      exact Or.inr (Or.inr ⟨hpos, hc0, Or.inl ⟨fun z => h8 z.2.2, rfl, rfl, rfl⟩⟩)
  · have hpos : 0 < h2 43 26 := by omega
    rcases a4 with z | ⟨z, q, z1, z2, z3, z4, z5⟩
    · exact absurd z.1 (by omega)
    have hq : ∀ j : Nat, j < q → ¬ h2 63 j = -1 := fun j hj => z5 j (by omega) hj
    refine ⟨fun h8 => fin _ (fu 3) (fb 3) ⟨q, -1, ?_⟩, fun h8 => fin _ (fu 2) (fb 2) ⟨q, -1, ?_⟩⟩
    · rw [e29, e30]
      exact Or.inr (Or.inl ⟨hpos, by rw [← ec]; exact z, rfl, by rw [← ec, if_neg (Int.not_lt.mpr h8)], q, z1, rfl, z4, z3, hq⟩)
    · rw [e29, e30]
      exact Or.inr (Or.inl ⟨hpos, by rw [← ec]; exact z, rfl, by rw [← ec, if_pos (Int.not_le.mp h8)], q, z1, rfl, z4, z3, hq⟩)
  · refine fin _ (fu 1) (fb 1) ⟨0, -1, ?_⟩
    rw [e29, e30]
    refine Or.inl ⟨h6, rfl, ?_, rfl⟩
    rcases a4 with z | ⟨z, q, z1, _⟩
    · exact z.2
    · omega
