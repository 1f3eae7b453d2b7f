/-! the reference's judge -/
def mArrM (g h : HP) (n : Nat) : Prop := h 43 26 = (mL g n).length ∧ ∀ i : Nat, i < (mL g n).length → h 62 i = (mL g n).getD i 0 ∧ h 63 i = wd g ((mL g n).getD i 0)
def jF (h0 h : HP) : Prop := (∀ a, a ≠ 43 → a ≠ 62 → a ≠ 63 → h a = h0 a) ∧ ∀ b, b ≠ 26 → b ≠ 29 → b ≠ 30 → h 43 b = h0 43 b
theorem jF.rf {h : HP} : jF h h := ⟨fun _ _ _ _ => rfl, fun _ _ _ _ => rfl⟩
theorem qTyp.jF {g h0 h : HP} (hj : jF h0 h) (hq : qTyp g h0) : qTyp g h := by
  refine ⟨(hj.2 22 (by decide) (by decide) (by decide)).trans hq.1, fun k hk => ?_⟩
  rw [hj.1 59 (by decide) (by decide) (by decide), hj.1 60 (by decide) (by decide) (by decide), hj.1 61 (by decide) (by decide) (by decide)]
  exact hq.2 k hk
theorem MS.jF {h h' : HP} (hp : jF h h') : MS h h' := by
  refine ⟨fun k hk => hp.1 k (by omega) (by omega) (by omega), fun k j hj => ?_⟩
  by_cases e : k = 43
  · subst e
    exact hp.2 j (by rintro rfl; cases hj) (by rintro rfl; cases hj) (by rintro rfl; cases hj)
  · rw [hp.1 k e (by rintro rfl; cases hj) (by rintro rfl; cases hj)]
set_option maxRecDepth 100000 in
set_option maxHeartbeats 4000000 in
theorem j1_Model_judge (g h0 : HP) (hC : CI g) (hm : CM g h0) (hq : qTyp g h0) (P : Option AV → HP → Prop) (hX : ∀ k h x2 x3, jF h0 h → mArrM g h (g 19 5).toNat → Wn Z4 mModel_judge SH0 85 [some (.inr (.inr 43)), some (.inl k), x2, x3] [] h P) : ∀ (d : Nat) (k : Int) (h : HP) (x2 x3 : Option AV), g 19 5 - k < d → 0 ≤ k → k ≤ g 19 5 → jF h0 h → mArrM g h k.toNat → Wn Z4 mModel_judge SH0 11 [some (.inr (.inr 43)), some (.inl k), x2, x3] [] h P := by
  obtain ⟨hW, hN, hR, hS, hL⟩ := hC
  have h10 := hL.2.2.2.1.2.1
  have h60 := hW.2.1
  intro d
  induction d with
  | zero => intro k h x2 x3 h1 h2 h3; omega
  | succ d ih =>
    intro k h x2 x3 h1 h2 h3 h4 h5
    have hq' := qTyp.jF h4 hq
    have e22 := hq'.1
    have h6 := h5.1
    have hlen := mL_len g k.toNat
    refine go [11,85] 400 (k := ?_)
    simp (config := {maxSteps := 1000000}) only [↓pI_c, ↓pR_c, ↓pJ_c, ↓pV_c, ↓popN_0, ↓popN_s, ↓lI_0, ↓lR_0, ↓lJ_0, ↓lI_s, ↓lR_s, ↓lJ_s, ↓okSt_0, ↓okSt_I, ↓okSt_R, ↓okSt_N, ↓okSt_s, ↓rtI_s, ↓rtV_n, ↓brP_t, ↓brP_f, ↓sModel_judge_0, ↓sModel_judge_1, ↓sModel_judge_4, ↓sModel_judge_5, ↓sModel_judge_6, ↓rf_43_26, ↓sModel_judge_9, ↓sModel_judge_10, ↓sModel_judge_11, ↓sModel_judge_12, ↓sModel_judge_13, ↓rf_43_22, ↓sModel_judge_16, ↓sModel_judge_19, ↓sModel_judge_20, ↓rf_43_25, ↓sModel_judge_23, ↓sModel_judge_24, ↓sModel_judge_25, ↓sModel_judge_26, ↓sModel_judge_29, ↓sModel_judge_30, ↓rf_43_2, ↓sModel_judge_33, ↓sModel_judge_34, ↓sModel_judge_37, ↓sModel_judge_38, ↓sModel_judge_39, ↓sModel_judge_40, ↓sModel_judge_41, ↓sModel_judge_44, ↓sModel_judge_45, ↓rf_43_27, ↓sModel_judge_48, ↓sModel_judge_49, ↓sModel_judge_52, ↓sModel_judge_53, ↓sModel_judge_54, ↓sModel_judge_55, ↓rf_43_28, ↓sModel_judge_58, ↓sModel_judge_59, ↓sModel_judge_62, ↓sModel_judge_63, ↓sModel_judge_66, ↓sModel_judge_67, ↓sModel_judge_68, ↓sModel_judge_69, ↓sModel_judge_70, ↓sModel_judge_71, ↓sModel_judge_74, ↓sModel_judge_75, ↓sModel_judge_76, ↓sModel_judge_79, ↓sModel_judge_82, ↓sModel_judge_85, ↓sModel_judge_86, ↓sModel_judge_87, ↓rf_43_30, ↓sModel_judge_90, ↓sModel_judge_91, ↓sModel_judge_92, ↓sModel_judge_93, ↓sModel_judge_94, ↓sModel_judge_95, ↓sModel_judge_98, ↓sModel_judge_99, ↓sModel_judge_100, ↓sModel_judge_101, ↓sModel_judge_102, ↓sModel_judge_105, ↓sModel_judge_106, ↓sModel_judge_109, ↓sModel_judge_110, ↓sModel_judge_111, ↓sModel_judge_112, ↓sModel_judge_115, ↓sModel_judge_118, ↓sModel_judge_119, ↓sModel_judge_120, ↓sModel_judge_123, ↓sModel_judge_124, ↓sModel_judge_125, ↓sModel_judge_128, ↓sModel_judge_131, ↓sModel_judge_132, ↓sModel_judge_133, ↓sModel_judge_136, ↓sModel_judge_137, ↓sModel_judge_138, ↓sModel_judge_141, ↓sModel_judge_144, ↓sModel_judge_145, ↓sModel_judge_148, ↓sModel_judge_149, ↓sModel_judge_150, ↓sModel_judge_151, ↓sModel_judge_154, ↓sModel_judge_157, ↓sModel_judge_158, ↓sModel_judge_161, ↓sModel_judge_164, ↓sModel_judge_165, ↓sModel_judge_166, ↓rf_43_29, ↓sModel_judge_169, ↓sModel_judge_172, ↓sModel_judge_173, ↓sModel_judge_176, ↓sModel_judge_177, ↓sModel_judge_178, ↓sModel_judge_179, ↓sModel_judge_182, ↓sModel_judge_183, ↓sModel_judge_186, ↓sModel_judge_187, ↓sModel_judge_190, ↓sModel_judge_193, ↓sModel_judge_194, ↓sModel_judge_197, ↓sModel_judge_198, ↓sModel_judge_201, ↓sModel_judge_202, ↓sModel_judge_203, ↓sModel_judge_204, ↓sModel_judge_207, ↓sModel_judge_208, ↓sModel_judge_209, ↓sModel_judge_212, ↓sModel_judge_213, ↓sModel_judge_214, ↓sModel_judge_217, ↓sModel_judge_218, ↓sModel_judge_219, ↓sModel_judge_222, ↓sModel_judge_225, ↓sModel_judge_226, ↓sModel_judge_227, ↓sModel_judge_230, ↓sModel_judge_231, ↓sModel_judge_232, ↓sModel_judge_235, ↓sModel_judge_236, ↓sModel_judge_237, ↓sModel_judge_240, ↓sModel_judge_243, ↓sModel_judge_244, ↓sModel_judge_245, ↓sModel_judge_248, ↓sModel_judge_249, ↓sModel_judge_252, ↓sModel_judge_253, ↓sModel_judge_256, ↓sModel_judge_258, ↓sModel_judge_261, ↓ln_44, ↓ln_61, ↓ln_62, ↓ln_63, List.set_cons_zero, List.set_cons_succ, List.length_cons, List.length_nil, List.contains_cons, List.contains_nil, cat1, brP_d, true_and, and_true, not_false_eq_true, not_true_eq_false, if_true, if_false, Bool.or_false, Bool.false_or, Bool.or_true, Bool.true_or, Bool.false_eq_true, Bool.or_self, false_implies, true_implies, forall_const, and_self, implies_true, true_or, or_true, or_false, false_or, or_self, Classical.not_not, Int.reduceAdd, Int.reduceSub, Int.reduceMul, Int.reduceNeg, Int.reduceToNat, Int.reduceLT, Int.reduceLE, Int.reduceEq, Int.reduceNe, Int.reduceNatCast', Nat.reduceAdd, Nat.reduceSub, Nat.reduceLeDiff, Nat.reduceLT, Nat.reduceEqDiff, Nat.reduceBEq, reduceIte, nx_w, nx_c, up_n, up_s, up_f, ne_eq, Nat.reduceEqDiff, Option.some.injEq, Prod.mk.injEq, exists_eq_left', reduceCtorEq, ob_43, e22]
    rw [wr_id (x := k + 1) (by omega) (by omega)]
    refine ⟨fun h7 => hX k h x2 x3 h4 (by rw [show g 19 5 = k by omega]; exact h5), fun h7 => ⟨by omega, ?_⟩⟩
    have e61 := (hq'.2 k.toNat (by omega)).2.2
    have ek : (k + 1).toNat = k.toNat + 1 := by omega
    simp only [e61]
    have add : ¬ idle g k.toNat → (0 ≤ h 43 26 ∧ h 43 26 < 10) ∧ (0 ≤ k ∧ k < 10) ∧ (0 ≤ h 43 26 ∧ h 43 26 < 10) ∧ Wn Z4 mModel_judge SH0 11 [some (.inr (.inr 43)), some (.inl (k + 1)), x2, x3] [] (up (up (up h 62 (h 43 26).toNat k) 63 (h 43 26).toNat (wd g k.toNat)) 43 26 (wr (h 43 26 + 1))) P := by
      intro hi
      rcases mL_s g k.toNat with ⟨e1, e2⟩ | ⟨e1, e2⟩
      · exact absurd e1 hi
      rw [h6, wr_id (x := ((mL g k.toNat).length : Int) + 1) (by omega) (by omega)]
      refine ⟨by omega, by omega, by omega, ih (k + 1) _ _ _ (by omega) (by omega) (by omega) ⟨fun a a1 a2 a3 => by rw [up_ne a1, up_ne a3, up_ne a2]; exact h4.1 a a1 a2 a3, fun b b1 b2 b3 => by rw [up_f b1, up_n (by decide), up_n (by decide)]; exact h4.2 b b1 b2 b3⟩ ?_⟩
      rw [ek]
      unfold mArrM
      rw [e2, up_s]
      refine ⟨by simp, fun i hi => ?_⟩
      have el : ((mL g k.toNat).length : Int).toNat = (mL g k.toNat).length := by omega
      have t25 : ∀ x y, up (up (up h 62 ((mL g k.toNat).length : Int).toNat k) 63 ((mL g k.toNat).length : Int).toNat x) 43 26 y 62 i = if i = (mL g k.toNat).length then k else h 62 i := fun x y => by rw [up_n (by decide), up_n (by decide), up_a, el]
      have t26 : ∀ x y, up (up (up h 62 ((mL g k.toNat).length : Int).toNat k) 63 ((mL g k.toNat).length : Int).toNat x) 43 26 y 63 i = if i = (mL g k.toNat).length then x else h 63 i := fun x y => by rw [up_n (by decide), up_a, up_n (by decide), el]
      rw [t25, t26]
      simp only [List.length_append, List.length_cons, List.length_nil] at hi
      by_cases e : i = (mL g k.toNat).length
      · subst e
        rw [if_pos rfl, if_pos rfl]
        simp only [List.getD_eq_getElem?_getD, List.getElem?_append_right (Nat.le_refl _), Nat.sub_self, List.getElem?_cons_zero, Option.getD_some]
        exact ⟨by omega, trivial⟩
      · have hlt : i < (mL g k.toNat).length := by omega
        rw [if_neg e, if_neg e]
        simp only [List.getD_eq_getElem?_getD, List.getElem?_append_left hlt]
        have := h5.2 i hlt
        simp only [List.getD_eq_getElem?_getD] at this
        exact this
    have skip : idle g k.toNat → Wn Z4 mModel_judge SH0 11 [some (.inr (.inr 43)), some (.inl (k + 1)), x2, x3] [] h P := by
      intro hi
      rcases mL_s g k.toNat with ⟨e1, e2⟩ | ⟨e1, e2⟩
      · refine ih (k + 1) h _ _ (by omega) (by omega) (by omega) h4 ?_
        rw [ek]
        unfold mArrM
        rw [e2]
        exact h5
      · exact absurd hi e1
    have hwd := wd_in hN k.toNat
    have e61' : up h 62 (h 43 26).toNat k 61 k.toNat = wd g k.toNat := by rw [up_n (by decide)]; exact e61
    refine ⟨fun h8 => ?_, fun h8 => ?_⟩
    · exact add (fun z => by have := z.1; omega)
    · have e44 : h 44 (wd g k.toNat).toNat = g 11 (wd g k.toNat).toNat := by
        rw [h4.1 44 (by decide) (by decide) (by decide)]
        exact (hm.1.2 _ (by omega)).1
      rw [e44]
      refine ⟨by omega, by omega, fun h9 => skip ⟨by omega, by omega, h9⟩, fun h9 => add (fun z => h9 z.2.2)⟩

theorem up_up {h : HP} {k j : Nat} {x y : Int} : up (up h k j x) k j y = up h k j y := by
  funext a b
  by_cases e : a = k ∧ b = j
  · obtain ⟨rfl, rfl⟩ := e
    rw [up_s, up_s]
  · rw [up_off e, up_off e, up_off e]
def scA (wf tf : Nat → Int) (n k c ab : Int) : Prop := c + cntE wf (-1) (k + 1).toNat = cntE wf (-1) n.toNat ∧ 0 ≤ c ∧ c ≤ 10 ∧ ((c = 0 ∧ ab = -1) ∨ (0 < c ∧ ∃ p : Nat, (p : Int) < n ∧ k < p ∧ wf p = -1 ∧ ab = tf p ∧ ∀ j : Nat, k < j → j < p → ¬ wf j = -1)) ∧ (c = 0 → ∀ j : Nat, k < j → (j : Int) < n → ¬ wf j = -1)
def scO (g : HP) (wf tf : Nat → Int) (n k o : Int) : Prop := (o = -1 ∧ ∀ j : Nat, k < j → (j : Int) < n → wf j = -1 ∨ ¬ g 13 (wf j).toNat = 0) ∨ ∃ p : Nat, (p : Int) < n ∧ k < p ∧ ¬ wf p = -1 ∧ g 13 (wf p).toNat = 0 ∧ o = tf p ∧ ∀ j : Nat, k < j → j < p → wf j = -1 ∨ ¬ g 13 (wf j).toNat = 0
set_option maxRecDepth 100000 in
set_option maxHeartbeats 4000000 in
theorem j2_Model_judge (g h0 : HP) (hW : CW g) (hm : CMW g h0) (hn : 0 ≤ h0 43 26 ∧ h0 43 26 ≤ 10) (hw : ∀ i : Nat, (i : Int) < h0 43 26 → h0 63 i = -1 ∨ (0 ≤ h0 63 i ∧ h0 63 i < g 10 4)) (P : Option AV → HP → Prop) (hX : ∀ c o ab k, scA (h0 63) (h0 62) (h0 43 26) (-1) c ab → scO g (h0 63) (h0 62) (h0 43 26) (-1) o → Wn Z4 mModel_judge SH0 157 [some (.inr (.inr 43)), some (.inl c), some (.inl o), some (.inl k)] [] (up h0 43 30 ab) P) : ∀ (d : Nat) (k c o ab : Int), k + 1 < d → -1 ≤ k → k < h0 43 26 → scA (h0 63) (h0 62) (h0 43 26) k c ab → scO g (h0 63) (h0 62) (h0 43 26) k o → Wn Z4 mModel_judge SH0 101 [some (.inr (.inr 43)), some (.inl c), some (.inl o), some (.inl k)] [] (up h0 43 30 ab) P := by
  intro d
  induction d with
  | zero => intro k c o ab h1 h2; omega
  | succ d ih =>
    intro k c o ab h1 h2 h3 h4 h5
    have hm' : CMW g (up h0 43 30 ab) := by
      unfold CMW
      rw [up_f (by decide)]
      refine ⟨hm.1, fun j hj => ?_⟩
      rw [up_n (by decide), up_n (by decide), up_n (by decide), up_n (by decide)]
      exact hm.2 j hj
    refine go [101,157] 400 (k := ?_)
    simp (config := {maxSteps := 1000000}) only [↓pI_c, ↓pR_c, ↓pJ_c, ↓pV_c, ↓popN_0, ↓popN_s, ↓lI_0, ↓lR_0, ↓lJ_0, ↓lI_s, ↓lR_s, ↓lJ_s, ↓okSt_0, ↓okSt_I, ↓okSt_R, ↓okSt_N, ↓okSt_s, ↓rtI_s, ↓rtV_n, ↓brP_t, ↓brP_f, ↓sModel_judge_0, ↓sModel_judge_1, ↓sModel_judge_4, ↓sModel_judge_5, ↓sModel_judge_6, ↓rf_43_26, ↓sModel_judge_9, ↓sModel_judge_10, ↓sModel_judge_11, ↓sModel_judge_12, ↓sModel_judge_13, ↓rf_43_22, ↓sModel_judge_16, ↓sModel_judge_19, ↓sModel_judge_20, ↓rf_43_25, ↓sModel_judge_23, ↓sModel_judge_24, ↓sModel_judge_25, ↓sModel_judge_26, ↓sModel_judge_29, ↓sModel_judge_30, ↓rf_43_2, ↓sModel_judge_33, ↓sModel_judge_34, ↓sModel_judge_37, ↓sModel_judge_38, ↓sModel_judge_39, ↓sModel_judge_40, ↓sModel_judge_41, ↓sModel_judge_44, ↓sModel_judge_45, ↓rf_43_27, ↓sModel_judge_48, ↓sModel_judge_49, ↓sModel_judge_52, ↓sModel_judge_53, ↓sModel_judge_54, ↓sModel_judge_55, ↓rf_43_28, ↓sModel_judge_58, ↓sModel_judge_59, ↓sModel_judge_62, ↓sModel_judge_63, ↓sModel_judge_66, ↓sModel_judge_67, ↓sModel_judge_68, ↓sModel_judge_69, ↓sModel_judge_70, ↓sModel_judge_71, ↓sModel_judge_74, ↓sModel_judge_75, ↓sModel_judge_76, ↓sModel_judge_79, ↓sModel_judge_82, ↓sModel_judge_85, ↓sModel_judge_86, ↓sModel_judge_87, ↓rf_43_30, ↓sModel_judge_90, ↓sModel_judge_91, ↓sModel_judge_92, ↓sModel_judge_93, ↓sModel_judge_94, ↓sModel_judge_95, ↓sModel_judge_98, ↓sModel_judge_99, ↓sModel_judge_100, ↓sModel_judge_101, ↓sModel_judge_102, ↓sModel_judge_105, ↓sModel_judge_106, ↓sModel_judge_109, ↓sModel_judge_110, ↓sModel_judge_111, ↓sModel_judge_112, ↓sModel_judge_115, ↓sModel_judge_118, ↓sModel_judge_119, ↓sModel_judge_120, ↓sModel_judge_123, ↓sModel_judge_124, ↓sModel_judge_125, ↓sModel_judge_128, ↓sModel_judge_131, ↓sModel_judge_132, ↓sModel_judge_133, ↓sModel_judge_136, ↓sModel_judge_137, ↓sModel_judge_138, ↓sModel_judge_141, ↓sModel_judge_144, ↓sModel_judge_145, ↓sModel_judge_148, ↓sModel_judge_149, ↓sModel_judge_150, ↓sModel_judge_151, ↓sModel_judge_154, ↓sModel_judge_157, ↓sModel_judge_158, ↓sModel_judge_161, ↓sModel_judge_164, ↓sModel_judge_165, ↓sModel_judge_166, ↓rf_43_29, ↓sModel_judge_169, ↓sModel_judge_172, ↓sModel_judge_173, ↓sModel_judge_176, ↓sModel_judge_177, ↓sModel_judge_178, ↓sModel_judge_179, ↓sModel_judge_182, ↓sModel_judge_183, ↓sModel_judge_186, ↓sModel_judge_187, ↓sModel_judge_190, ↓sModel_judge_193, ↓sModel_judge_194, ↓sModel_judge_197, ↓sModel_judge_198, ↓sModel_judge_201, ↓sModel_judge_202, ↓sModel_judge_203, ↓sModel_judge_204, ↓sModel_judge_207, ↓sModel_judge_208, ↓sModel_judge_209, ↓sModel_judge_212, ↓sModel_judge_213, ↓sModel_judge_214, ↓sModel_judge_217, ↓sModel_judge_218, ↓sModel_judge_219, ↓sModel_judge_222, ↓sModel_judge_225, ↓sModel_judge_226, ↓sModel_judge_227, ↓sModel_judge_230, ↓sModel_judge_231, ↓sModel_judge_232, ↓sModel_judge_235, ↓sModel_judge_236, ↓sModel_judge_237, ↓sModel_judge_240, ↓sModel_judge_243, ↓sModel_judge_244, ↓sModel_judge_245, ↓sModel_judge_248, ↓sModel_judge_249, ↓sModel_judge_252, ↓sModel_judge_253, ↓sModel_judge_256, ↓sModel_judge_258, ↓sModel_judge_261, ↓ln_44, ↓ln_61, ↓ln_62, ↓ln_63, List.set_cons_zero, List.set_cons_succ, List.length_cons, List.length_nil, List.contains_cons, List.contains_nil, cat1, brP_d, true_and, and_true, not_false_eq_true, not_true_eq_false, if_true, if_false, Bool.or_false, Bool.false_or, Bool.or_true, Bool.true_or, Bool.false_eq_true, Bool.or_self, false_implies, true_implies, forall_const, and_self, implies_true, true_or, or_true, or_false, false_or, or_self, Classical.not_not, Int.reduceAdd, Int.reduceSub, Int.reduceMul, Int.reduceNeg, Int.reduceToNat, Int.reduceLT, Int.reduceLE, Int.reduceEq, Int.reduceNe, Int.reduceNatCast', Nat.reduceAdd, Nat.reduceSub, Nat.reduceLeDiff, Nat.reduceLT, Nat.reduceEqDiff, Nat.reduceBEq, reduceIte, nx_w, nx_c, up_n, up_s, up_f, ne_eq, Nat.reduceEqDiff, Option.some.injEq, Prod.mk.injEq, exists_eq_left', reduceCtorEq, ob_43]
    rw [wr_id (x := k + -1) (by omega) (by omega)]
    refine ⟨fun h6 => ?_, fun h6 => ⟨by omega, fun h7 => ?_, fun h7 => ?_⟩⟩
    · have e : k = -1 := by omega
      subst e
      exact hX c o ab _ h4 h5
    · -- known
      obtain ⟨a1, a2, a3, a4, a5⟩ := h4
      have hk := hw k.toNat (by omega)
      have hs : cntE (h0 63) (-1) (k + 1).toNat = cntE (h0 63) (-1) k.toNat + (if h0 63 k.toNat = -1 then 1 else 0) := by
        rw [show (k + 1).toNat = k.toNat + 1 by omega]
        rfl
      rw [if_neg h7] at hs
      have h4' : scA (h0 63) (h0 62) (h0 43 26) (k + -1) c ab := by
        refine ⟨by rw [show (k + -1 + 1).toNat = k.toNat by omega]; omega, a2, a3, ?_, fun z j j1 j2 => ?_⟩
        · rcases a4 with z | ⟨z, p, p1, p2, p3, p4, p5⟩
          · exact Or.inl z
          · refine Or.inr ⟨z, p, p1, by omega, p3, p4, fun j j1 j2 => ?_⟩
            by_cases e : (j : Int) = k
            · rw [show j = k.toNat by omega]; exact h7
            · exact p5 j (by omega) j2
        · by_cases e : (j : Int) = k
          · rw [show j = k.toNat by omega]; exact h7
          · exact a5 z j (by omega) j2
      refine ⟨by omega, ?_⟩
      refine use_q (t_Model_inScopeG g _ hW hm' _ (by rcases hk with z | z; exact absurd z h7; exact z)) ?_
      rintro r (⟨rfl, hr⟩ | ⟨rfl, hr⟩)
      · simp only [show ¬ (1 : Int) = 0 by decide, not_false_eq_true, true_implies, false_implies, and_true]
        refine ih (k + -1) c o ab (by omega) (by omega) (by omega) h4' ?_
        rcases h5 with ⟨z1, z2⟩ | ⟨p, p1, p2, p3, p4, p5, p6⟩
        · refine Or.inl ⟨z1, fun j j1 j2 => ?_⟩
          by_cases e : (j : Int) = k
          · rw [show j = k.toNat by omega]; exact Or.inr hr
          · exact z2 j (by omega) j2
        · refine Or.inr ⟨p, p1, by omega, p3, p4, p5, fun j j1 j2 => ?_⟩
          by_cases e : (j : Int) = k
          · rw [show j = k.toNat by omega]; exact Or.inr hr
          · exact p6 j (by omega) j2
      · simp only [not_true_eq_false, false_implies, true_implies, true_and]
        refine ⟨by omega, ih (k + -1) c _ ab (by omega) (by omega) (by omega) h4' (Or.inr ⟨k.toNat, by omega, by omega, h7, Classical.not_not.mp hr, rfl, fun j j1 j2 => by omega⟩)⟩
    · -- not known
      obtain ⟨a1, a2, a3, a4, a5⟩ := h4
      have hs : cntE (h0 63) (-1) (k + 1).toNat = cntE (h0 63) (-1) k.toNat + (if h0 63 k.toNat = -1 then 1 else 0) := by
        rw [show (k + 1).toNat = k.toNat + 1 by omega]
        rfl
      rw [if_pos h7] at hs
      have hle := cntE_le (h0 63) (-1) k.toNat
      have hle2 := cntE_le (h0 63) (-1) (h0 43 26).toNat
      rw [wr_id (x := c + 1) (by omega) (by omega), up_up]
      refine ⟨by omega, ih (k + -1) (c + 1) o _ (by omega) (by omega) (by omega) ⟨by rw [show (k + -1 + 1).toNat = k.toNat by omega]; omega, by omega, by omega, Or.inr ⟨by omega, k.toNat, by omega, by omega, h7, rfl, fun j j1 j2 => by omega⟩, fun z => by omega⟩ ?_⟩
      rcases h5 with ⟨z1, z2⟩ | ⟨p, p1, p2, p3, p4, p5, p6⟩
      · refine Or.inl ⟨z1, fun j j1 j2 => ?_⟩
        by_cases e : (j : Int) = k
        · rw [show j = k.toNat by omega]; exact Or.inl h7
        · exact z2 j (by omega) j2
      · refine Or.inr ⟨p, p1, by omega, p3, p4, p5, fun j j1 j2 => ?_⟩
        by_cases e : (j : Int) = k
        · rw [show j = k.toNat by omega]; exact Or.inl h7
        · exact p6 j (by omega) j2
def qJudge (g h h' : HP) : Prop := MS h h' ∧ qTyp g h' ∧ h' 43 26 = mN g ∧ (∀ i : Nat, (i : Int) < mN g → h' 62 i = mT g i ∧ h' 63 i = mW g i) ∧ ∃ p x, verdR g (mN g) (fun i => mT g i) (mW g) (h' 43 29) (h' 43 30) p x
