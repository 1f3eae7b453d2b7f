/-! word of the reference; line of both: runs -/
def gdM (h : HP) (kd l : Int) : Prop := 0 ≤ kd ∧ kd ≤ 3 ∧ spP (h 56) l
set_option maxRecDepth 100000 in
set_option maxHeartbeats 4000000 in
theorem l_Model_word (h : HP) (kd l : Int) (hl : 0 ≤ l ∧ l ≤ 80) (P : Option AV → HP → Prop) (hX : ∀ g x4, (g = 1 ∧ gdM h kd l ∨ g = 0 ∧ ¬ gdM h kd l) → Wn Z4 mModel_word SH0 82 [some (.inr (.inr 43)), some (.inl kd), some (.inl l), some (.inl g), x4] [] h P) : ∀ (d : Nat) (i g : Int), l - i < d → 0 ≤ i → i ≤ l → (g = 1 ∧ (0 ≤ kd ∧ kd ≤ 3 ∧ 1 ≤ l ∧ l ≤ 12) ∧ (∀ j : Nat, (j : Int) < i → 97 ≤ h 56 j ∧ h 56 j ≤ 122)) ∨ (g = 0 ∧ ¬ gdM h kd l) → Wn Z4 mModel_word SH0 43 [some (.inr (.inr 43)), some (.inl kd), some (.inl l), some (.inl g), some (.inl i)] [] h P := by
  intro d
  induction d with
  | zero => intro i g h1 h2 h3; omega
  | succ d ih =>
    intro i g h1 h2 h3 h4
    refine go [43,82] 400 (k := ?_)
    simp (config := {maxSteps := 1000000}) only [↓pI_c, ↓pR_c, ↓pJ_c, ↓pV_c, ↓popN_0, ↓popN_s, ↓lI_0, ↓lR_0, ↓lJ_0, ↓lI_s, ↓lR_s, ↓lJ_s, ↓okSt_0, ↓okSt_I, ↓okSt_R, ↓okSt_N, ↓okSt_s, ↓rtI_s, ↓rtV_n, ↓brP_t, ↓brP_f, ↓sModel_word_0, ↓sModel_word_1, ↓sModel_word_2, ↓rf_43_0, ↓sModel_word_5, ↓sModel_word_6, ↓rf_43_16, ↓sModel_word_9, ↓sModel_word_10, ↓sModel_word_11, ↓sModel_word_12, ↓sModel_word_15, ↓sModel_word_16, ↓sModel_word_17, ↓sModel_word_18, ↓sModel_word_21, ↓sModel_word_24, ↓sModel_word_25, ↓sModel_word_26, ↓sModel_word_28, ↓sModel_word_31, ↓sModel_word_34, ↓sModel_word_35, ↓sModel_word_38, ↓sModel_word_39, ↓sModel_word_40, ↓sModel_word_41, ↓sModel_word_43, ↓sModel_word_45, ↓sModel_word_46, ↓sModel_word_49, ↓sModel_word_50, ↓sModel_word_53, ↓sModel_word_54, ↓rf_43_17, ↓sModel_word_57, ↓sModel_word_59, ↓sModel_word_60, ↓sModel_word_62, ↓sModel_word_64, ↓sModel_word_67, ↓sModel_word_70, ↓sModel_word_71, ↓sModel_word_74, ↓sModel_word_75, ↓sModel_word_76, ↓sModel_word_79, ↓sModel_word_82, ↓sModel_word_83, ↓sModel_word_86, ↓sModel_word_88, ↓sModel_word_89, ↓sModel_word_90, ↓sModel_word_91, ↓sModel_word_94, ↓sModel_word_95, ↓sModel_word_96, ↓sModel_word_99, ↓sModel_word_100, ↓sModel_word_103, ↓sModel_word_105, ↓sModel_word_106, ↓sModel_word_107, ↓rf_43_1, ↓sModel_word_110, ↓sModel_word_112, ↓sModel_word_115, ↓sModel_word_116, ↓rf_43_6, ↓sModel_word_119, ↓sModel_word_121, ↓sModel_word_124, ↓sModel_word_126, ↓sModel_word_127, ↓sModel_word_128, ↓rf_43_2, ↓sModel_word_131, ↓sModel_word_132, ↓sModel_word_135, ↓sModel_word_136, ↓sModel_word_137, ↓sModel_word_138, ↓sModel_word_139, ↓sModel_word_142, ↓sModel_word_143, ↓sModel_word_144, ↓sModel_word_145, ↓sModel_word_148, ↓sModel_word_151, ↓sModel_word_152, ↓sModel_word_153, ↓sModel_word_156, ↓sModel_word_157, ↓sModel_word_158, ↓sModel_word_161, ↓sModel_word_162, ↓sModel_word_165, ↓sModel_word_166, ↓sModel_word_167, ↓ln_44, ↓ln_56, List.set_cons_zero, List.set_cons_succ, List.length_cons, List.length_nil, List.contains_cons, List.contains_nil, cat1, brP_d, true_and, and_true, not_false_eq_true, not_true_eq_false, if_true, if_false, Bool.or_false, Bool.false_or, Bool.or_true, Bool.true_or, Bool.false_eq_true, Bool.or_self, false_implies, true_implies, forall_const, and_self, implies_true, true_or, or_true, or_false, false_or, or_self, Classical.not_not, Int.reduceAdd, Int.reduceSub, Int.reduceMul, Int.reduceNeg, Int.reduceToNat, Int.reduceLT, Int.reduceLE, Int.reduceEq, Int.reduceNe, Int.reduceNatCast', Nat.reduceAdd, Nat.reduceSub, Nat.reduceLeDiff, Nat.reduceLT, Nat.reduceEqDiff, Nat.reduceBEq, reduceIte, nx_w, nx_c, up_n, up_s, up_f, ne_eq, Nat.reduceEqDiff, Option.some.injEq, Prod.mk.injEq, exists_eq_left', reduceCtorEq, ar_56, ob_43]
    rw [wr_id (x := i + 1) (by omega) (by omega)]
    constructor
    · intro h5
      refine hX _ _ ?_
      rcases h4 with ⟨rfl, h6, h7⟩ | h6
      · exact Or.inl ⟨rfl, h6.1, h6.2.1, h6.2.2.1, h6.2.2.2, fun j hj => h7 j (by omega)⟩
      · exact Or.inr h6
    · intro h5
      rcases h4 with ⟨rfl, h6, h7⟩ | ⟨rfl, h6⟩
      · simp only [show ¬ (1 : Int) = 0 by decide, false_implies, not_false_eq_true, true_implies, true_and]
        refine ⟨by omega, ?_⟩
        refine use_p (t_Model_in h _ 97 122) ?_
        by_cases hc : 97 ≤ h 56 i.toNat ∧ h 56 i.toNat ≤ 122
        · simp only [b2, if_pos hc, show ¬ (1 : Int) = 0 by decide, false_implies, not_false_eq_true, true_implies, true_and]
          refine ih (i + 1) 1 (by omega) (by omega) (by omega) (Or.inl ⟨rfl, h6, fun j hj => ?_⟩)
          by_cases e : (j : Int) = i
          · rw [show j = i.toNat by omega]; exact hc
          · exact h7 j (by omega)
        · simp only [b2, if_neg hc, true_implies, not_true_eq_false, false_implies, and_true]
          exact ih (i + 1) 0 (by omega) (by omega) (by omega) (Or.inr ⟨rfl, fun z => hc (z.2.2.2.2 i.toNat (by omega))⟩)
      · simp only [true_implies, not_true_eq_false, false_implies, and_true]
        exact ih (i + 1) 0 (by omega) (by omega) (by omega) (Or.inr ⟨rfl, h6⟩)
def tpM (h : HP) : HP := up (up h 43 0 0) 43 16 0
def qWordM (h : HP) (kd r : Int) (h' : HP) : Prop :=
  (¬ gdM h kd (h 43 16) ∧ r = -2 ∧ h' = tpM h) ∨ (gdM h kd (h 43 16) ∧ (∃ k : Nat, (k : Int) < h 43 6 ∧ mtM h (fun j => sm (h 56 j)) (h 43 16) k) ∧ r = -3 ∧ h' = tpM h) ∨
  (gdM h kd (h 43 16) ∧ (¬ ∃ k : Nat, (k : Int) < h 43 6 ∧ mtM h (fun j => sm (h 56 j)) (h 43 16) k) ∧ (h 43 1 = 60 ∨ h 43 6 = 90) ∧ r = -4 ∧ h' = tpM h) ∨
  (gdM h kd (h 43 16) ∧ (¬ ∃ k : Nat, (k : Int) < h 43 6 ∧ mtM h (fun j => sm (h 56 j)) (h 43 16) k) ∧ ¬ h 43 1 = 60 ∧ ¬ h 43 6 = 90 ∧ r = h 43 1 ∧ h' = up (addM (up (tpM h) 44 (h 43 1).toNat kd) 56 0 (h 43 16) (h 43 1)) 43 1 (h 43 1 + 1))
theorem tpM_ne {h : HP} {a : Nat} (ha : a ≠ 43) : tpM h a = h a := by
  unfold tpM
  rw [up_ne ha, up_ne ha]
theorem tpM_f {h : HP} {b : Nat} (h0 : b ≠ 0) (h1 : b ≠ 16) : tpM h 43 b = h 43 b := by
  unfold tpM
  rw [up_f h1, up_f h0]
set_option maxRecDepth 100000 in
set_option maxHeartbeats 4000000 in
theorem t_Model_word (h : HP) (kd : Int) (ht : 0 ≤ h 43 16 ∧ h 43 16 ≤ 80) (hw : 0 ≤ h 43 1 ∧ h 43 1 ≤ 60) (hn : 0 ≤ h 43 6 ∧ h 43 6 ≤ 90) (hln : ∀ k : Nat, (k : Int) < h 43 6 → h 49 k ≤ 12) (hw0 : ∀ k : Nat, (k : Int) < h 43 6 → 0 ≤ h 50 k) : trI mModel_word [.inr (.inr 43), .inl kd] SH0 h (qWordM h kd) := by
  have g6 : tpM h 43 6 = h 43 6 := tpM_f (by decide) (by decide)
  have g1 : tpM h 43 1 = h 43 1 := tpM_f (by decide) (by decide)
  have hgd : ∀ l, gdM (tpM h) kd l ↔ gdM h kd l := fun l => by unfold gdM; rw [tpM_ne (by decide)]
  have hmt : ∀ l k, mtM (tpM h) (fun j => sm (tpM h 56 ((0 : Int).toNat + j))) l k ↔ mtM h (fun j => sm (h 56 j)) l k := fun l k => by
    unfold mtM
    rw [tpM_ne (by decide), tpM_ne (by decide), tpM_ne (by decide)]
    simp only [show ∀ i : Nat, (0 : Int).toNat + i = i from fun i => by omega]
  have hX : ∀ g x4, (g = 1 ∧ gdM h kd (h 43 16) ∨ g = 0 ∧ ¬ gdM h kd (h 43 16)) → Wn Z4 mModel_word SH0 82 [some (.inr (.inr 43)), some (.inl kd), some (.inl (h 43 16)), some (.inl g), x4] [] (tpM h) (rtI (qWordM h kd)) := by
    intro g x4 hg
    refine go [9999] 400 (k := ?_)
    simp (config := {maxSteps := 1000000}) only [↓pI_c, ↓pR_c, ↓pJ_c, ↓pV_c, ↓popN_0, ↓popN_s, ↓lI_0, ↓lR_0, ↓lJ_0, ↓lI_s, ↓lR_s, ↓lJ_s, ↓okSt_0, ↓okSt_I, ↓okSt_R, ↓okSt_N, ↓okSt_s, ↓rtI_s, ↓rtV_n, ↓brP_t, ↓brP_f, ↓sModel_word_0, ↓sModel_word_1, ↓sModel_word_2, ↓rf_43_0, ↓sModel_word_5, ↓sModel_word_6, ↓rf_43_16, ↓sModel_word_9, ↓sModel_word_10, ↓sModel_word_11, ↓sModel_word_12, ↓sModel_word_15, ↓sModel_word_16, ↓sModel_word_17, ↓sModel_word_18, ↓sModel_word_21, ↓sModel_word_24, ↓sModel_word_25, ↓sModel_word_26, ↓sModel_word_28, ↓sModel_word_31, ↓sModel_word_34, ↓sModel_word_35, ↓sModel_word_38, ↓sModel_word_39, ↓sModel_word_40, ↓sModel_word_41, ↓sModel_word_43, ↓sModel_word_45, ↓sModel_word_46, ↓sModel_word_49, ↓sModel_word_50, ↓sModel_word_53, ↓sModel_word_54, ↓rf_43_17, ↓sModel_word_57, ↓sModel_word_59, ↓sModel_word_60, ↓sModel_word_62, ↓sModel_word_64, ↓sModel_word_67, ↓sModel_word_70, ↓sModel_word_71, ↓sModel_word_74, ↓sModel_word_75, ↓sModel_word_76, ↓sModel_word_79, ↓sModel_word_82, ↓sModel_word_83, ↓sModel_word_86, ↓sModel_word_88, ↓sModel_word_89, ↓sModel_word_90, ↓sModel_word_91, ↓sModel_word_94, ↓sModel_word_95, ↓sModel_word_96, ↓sModel_word_99, ↓sModel_word_100, ↓sModel_word_103, ↓sModel_word_105, ↓sModel_word_106, ↓sModel_word_107, ↓rf_43_1, ↓sModel_word_110, ↓sModel_word_112, ↓sModel_word_115, ↓sModel_word_116, ↓rf_43_6, ↓sModel_word_119, ↓sModel_word_121, ↓sModel_word_124, ↓sModel_word_126, ↓sModel_word_127, ↓sModel_word_128, ↓rf_43_2, ↓sModel_word_131, ↓sModel_word_132, ↓sModel_word_135, ↓sModel_word_136, ↓sModel_word_137, ↓sModel_word_138, ↓sModel_word_139, ↓sModel_word_142, ↓sModel_word_143, ↓sModel_word_144, ↓sModel_word_145, ↓sModel_word_148, ↓sModel_word_151, ↓sModel_word_152, ↓sModel_word_153, ↓sModel_word_156, ↓sModel_word_157, ↓sModel_word_158, ↓sModel_word_161, ↓sModel_word_162, ↓sModel_word_165, ↓sModel_word_166, ↓sModel_word_167, ↓ln_44, ↓ln_56, List.set_cons_zero, List.set_cons_succ, List.length_cons, List.length_nil, List.contains_cons, List.contains_nil, cat1, brP_d, true_and, and_true, not_false_eq_true, not_true_eq_false, if_true, if_false, Bool.or_false, Bool.false_or, Bool.or_true, Bool.true_or, Bool.false_eq_true, Bool.or_self, false_implies, true_implies, forall_const, and_self, implies_true, true_or, or_true, or_false, false_or, or_self, Classical.not_not, Int.reduceAdd, Int.reduceSub, Int.reduceMul, Int.reduceNeg, Int.reduceToNat, Int.reduceLT, Int.reduceLE, Int.reduceEq, Int.reduceNe, Int.reduceNatCast', Nat.reduceAdd, Nat.reduceSub, Nat.reduceLeDiff, Nat.reduceLT, Nat.reduceEqDiff, Nat.reduceBEq, reduceIte, nx_w, nx_c, up_n, up_s, up_f, ne_eq, Nat.reduceEqDiff, Option.some.injEq, Prod.mk.injEq, exists_eq_left', reduceCtorEq, ar_56, ob_43, g6, g1]
    rcases hg with ⟨rfl, hg⟩ | ⟨rfl, hg⟩
    · simp only [show ¬ (1 : Int) = 0 by decide, false_implies, not_false_eq_true, true_implies, true_and, not_true_eq_false, and_true]
      refine use_q (t_Model_named (tpM h) 56 80 0 (h 43 16) (fun f => ln_56.2) ht.1 (by omega) (by rw [g6]; exact hn) (by rw [g6, tpM_ne (by decide)]; exact hln)) ?_
      intro x hx
      unfold fndM at hx
      rw [g6] at hx
      simp only [hmt] at hx
      rcases hx with ⟨rfl, hno⟩ | ⟨k, hk, rfl, hmk⟩
      · have hno' : ¬ ∃ k : Nat, (k : Int) < h 43 6 ∧ mtM h (fun j => sm (h 56 j)) (h 43 16) k := fun ⟨k, hk, hm⟩ => hno k hk hm
        simp only [true_implies, not_true_eq_false, false_implies, and_true]
        have full : (h 43 1 = 60 ∨ h 43 6 = 90) → qWordM h kd (-4) (tpM h) := fun hf => Or.inr (Or.inr (Or.inl ⟨hg, hno', hf, rfl, rfl⟩))
        refine ⟨fun h3 => full (Or.inl h3), fun h3 => ⟨fun h4 => ?_, fun h4 => full (Or.inr h4)⟩⟩
        refine ⟨by omega, ?_⟩
        have k6 : up (tpM h) 44 (h 43 1).toNat kd 43 6 = h 43 6 := by rw [up_n (by decide)]; exact g6
        refine trV_use (t_Model_name (up (tpM h) 44 (h 43 1).toNat kd) 56 80 0 (h 43 16) (h 43 1) (fun f => ln_56.2) (by decide) (by have := hg.2.2.1; have := hg.2.2.2.1; omega) (by omega) (by rw [k6]; omega)) ?_
        rintro _ rfl
        have k1 : addM (up (tpM h) 44 (h 43 1).toNat kd) 56 0 (h 43 16) (h 43 1) 43 1 = h 43 1 := by
          unfold addM
          rw [up_f (by decide), up_n (by decide), up_n (by decide), cpy_ne (by decide), up_n (by decide)]
          exact g1
        simp only [k1]
        rw [wr_id (x := h 43 1 + 1) (by omega) (by omega), wr_id (x := h 43 1 + 1 - 1) (by omega) (by omega)]
        exact Or.inr (Or.inr (Or.inr ⟨hg, hno', h3, h4, by omega, rfl⟩))
      · have hp : ¬ tpM h 50 k = -1 := by
          rw [tpM_ne (by decide)]
          have := hw0 k hk
          omega
        simp only [hp, false_implies, not_false_eq_true, true_implies, true_and]
        exact Or.inr (Or.inl ⟨hg, ⟨k, hk, hmk⟩, rfl, rfl⟩)
    · simp only [true_implies, not_true_eq_false, false_implies, and_true, not_false_eq_true, true_and]
      exact Or.inl ⟨hg, rfl, rfl⟩
  refine startI [some (.inr (.inr 43)), some (.inl kd), none, none, none] mModel_word_c (go [43] 400 (k := ?_))
  simp (config := {maxSteps := 1000000}) only [↓pI_c, ↓pR_c, ↓pJ_c, ↓pV_c, ↓popN_0, ↓popN_s, ↓lI_0, ↓lR_0, ↓lJ_0, ↓lI_s, ↓lR_s, ↓lJ_s, ↓okSt_0, ↓okSt_I, ↓okSt_R, ↓okSt_N, ↓okSt_s, ↓rtI_s, ↓rtV_n, ↓brP_t, ↓brP_f, ↓sModel_word_0, ↓sModel_word_1, ↓sModel_word_2, ↓rf_43_0, ↓sModel_word_5, ↓sModel_word_6, ↓rf_43_16, ↓sModel_word_9, ↓sModel_word_10, ↓sModel_word_11, ↓sModel_word_12, ↓sModel_word_15, ↓sModel_word_16, ↓sModel_word_17, ↓sModel_word_18, ↓sModel_word_21, ↓sModel_word_24, ↓sModel_word_25, ↓sModel_word_26, ↓sModel_word_28, ↓sModel_word_31, ↓sModel_word_34, ↓sModel_word_35, ↓sModel_word_38, ↓sModel_word_39, ↓sModel_word_40, ↓sModel_word_41, ↓sModel_word_43, ↓sModel_word_45, ↓sModel_word_46, ↓sModel_word_49, ↓sModel_word_50, ↓sModel_word_53, ↓sModel_word_54, ↓rf_43_17, ↓sModel_word_57, ↓sModel_word_59, ↓sModel_word_60, ↓sModel_word_62, ↓sModel_word_64, ↓sModel_word_67, ↓sModel_word_70, ↓sModel_word_71, ↓sModel_word_74, ↓sModel_word_75, ↓sModel_word_76, ↓sModel_word_79, ↓sModel_word_82, ↓sModel_word_83, ↓sModel_word_86, ↓sModel_word_88, ↓sModel_word_89, ↓sModel_word_90, ↓sModel_word_91, ↓sModel_word_94, ↓sModel_word_95, ↓sModel_word_96, ↓sModel_word_99, ↓sModel_word_100, ↓sModel_word_103, ↓sModel_word_105, ↓sModel_word_106, ↓sModel_word_107, ↓rf_43_1, ↓sModel_word_110, ↓sModel_word_112, ↓sModel_word_115, ↓sModel_word_116, ↓rf_43_6, ↓sModel_word_119, ↓sModel_word_121, ↓sModel_word_124, ↓sModel_word_126, ↓sModel_word_127, ↓sModel_word_128, ↓rf_43_2, ↓sModel_word_131, ↓sModel_word_132, ↓sModel_word_135, ↓sModel_word_136, ↓sModel_word_137, ↓sModel_word_138, ↓sModel_word_139, ↓sModel_word_142, ↓sModel_word_143, ↓sModel_word_144, ↓sModel_word_145, ↓sModel_word_148, ↓sModel_word_151, ↓sModel_word_152, ↓sModel_word_153, ↓sModel_word_156, ↓sModel_word_157, ↓sModel_word_158, ↓sModel_word_161, ↓sModel_word_162, ↓sModel_word_165, ↓sModel_word_166, ↓sModel_word_167, ↓ln_44, ↓ln_56, List.set_cons_zero, List.set_cons_succ, List.length_cons, List.length_nil, List.contains_cons, List.contains_nil, cat1, brP_d, true_and, and_true, not_false_eq_true, not_true_eq_false, if_true, if_false, Bool.or_false, Bool.false_or, Bool.or_true, Bool.true_or, Bool.false_eq_true, Bool.or_self, false_implies, true_implies, forall_const, and_self, implies_true, true_or, or_true, or_false, false_or, or_self, Classical.not_not, Int.reduceAdd, Int.reduceSub, Int.reduceMul, Int.reduceNeg, Int.reduceToNat, Int.reduceLT, Int.reduceLE, Int.reduceEq, Int.reduceNe, Int.reduceNatCast', Nat.reduceAdd, Nat.reduceSub, Nat.reduceLeDiff, Nat.reduceLT, Nat.reduceEqDiff, Nat.reduceBEq, reduceIte, nx_w, nx_c, up_n, up_s, up_f, ne_eq, Nat.reduceEqDiff, Option.some.injEq, Prod.mk.injEq, exists_eq_left', reduceCtorEq, ar_56, ob_43]
  refine use_p (t_Model_in _ kd 0 3) ?_
  have lp : ∀ g : Int, (g = 1 ∧ (0 ≤ kd ∧ kd ≤ 3 ∧ 1 ≤ h 43 16 ∧ h 43 16 ≤ 12)) ∨ (g = 0 ∧ ¬ gdM h kd (h 43 16)) → Wn Z4 mModel_word SH0 43 [some (.inr (.inr 43)), some (.inl kd), some (.inl (h 43 16)), some (.inl g), some (.inl 0)] [] (tpM h) (rtI (qWordM h kd)) := by
    intro g hg
    refine l_Model_word (tpM h) kd (h 43 16) ht _ (fun g x4 hh => hX g x4 (by rw [hgd] at hh; exact hh)) ((h 43 16).toNat + 1) 0 g (by omega) (by omega) ht.1 ?_
    rw [hgd]
    rcases hg with ⟨rfl, hg⟩ | hg
    · exact Or.inl ⟨rfl, hg, fun j hj => by omega⟩
    · exact Or.inr hg
  constructor
  · intro h1
    exact lp 0 (Or.inr ⟨rfl, fun z => by have := z.1; have := z.2.1; grind [b2]⟩)
  · intro h1
    refine use_p (t_Model_in _ _ 1 12) ?_
    constructor
    · intro h2
      exact lp 0 (Or.inr ⟨rfl, fun z => by have := z.2.2.1; have := z.2.2.2.1; grind [b2]⟩)
    · intro h2
      exact lp 1 (Or.inl ⟨rfl, by grind [b2]⟩)
