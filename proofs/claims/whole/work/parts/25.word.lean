/-! word: both sides -/
theorem cpy_0 {h : HP} {ks kd sp dp : Nat} : cpy h ks kd sp dp 0 = h := by
  funext a b
  unfold cpy
  rw [if_neg (by omega)]
theorem cpy_s {h : HP} {ks kd sp dp i : Nat} : up (cpy h ks kd sp dp i) kd (dp + i) (h ks (sp + i)) = cpy h ks kd sp dp (i + 1) := by
  funext a b
  by_cases e : a = kd ∧ b = dp + i
  · obtain ⟨rfl, rfl⟩ := e
    rw [up_s]
    unfold cpy
    rw [if_pos (by omega)]
    congr 1
    omega
  · rw [up_off e]
    unfold cpy
    by_cases c : a = kd ∧ dp ≤ b ∧ b < dp + i
    · rw [if_pos c, if_pos (by omega)]
    · rw [if_neg c, if_neg (by omega)]
/-- the tape spells a name -/
def spP (f : Nat → Int) (l : Int) : Prop := 1 ≤ l ∧ l ≤ 12 ∧ ∀ i : Nat, (i : Int) < l → 97 ≤ f i ∧ f i ≤ 122
def qSpell (h : HP) (l r : Int) (h' : HP) : Prop := (∀ a, a ≠ 2 → h' a = h a) ∧ ((r = 0 ∧ ¬ spP (h 1) l) ∨ (r = 1 ∧ spP (h 1) l ∧ ∀ i : Nat, (i : Int) < l → h' 2 i = h 1 i - 97))
set_option maxRecDepth 100000 in
set_option maxHeartbeats 4000000 in
theorem l_Help_spell (h0 : HP) (l : Int) (hl : 1 ≤ l ∧ l ≤ 12) : ∀ (d : Nat) (i : Int) (h : HP), l - i < d → 0 ≤ i → i ≤ l → (∀ a, a ≠ 2 → h a = h0 a) → (∀ j : Nat, (j : Int) < i → 97 ≤ h0 1 j ∧ h0 1 j ≤ 122 ∧ h 2 j = h0 1 j - 97) → Wn Z4 mHelp_spell SH0 15 [some (.inr (.inr 0)), some (.inl l), some (.inl i)] [] h (rtI (qSpell h0 l)) := by
  intro d
  induction d with
  | zero => intro i h h1 h2 h3; omega
  | succ d ih =>
    intro i h h1 h2 h3 h4 h5
    refine go [15] 400 (k := ?_)
    simp (config := {maxSteps := 1000000}) only [↓pI_c, ↓pR_c, ↓pJ_c, ↓pV_c, ↓popN_0, ↓popN_s, ↓lI_0, ↓lR_0, ↓lJ_0, ↓lI_s, ↓lR_s, ↓lJ_s, ↓okSt_0, ↓okSt_I, ↓okSt_R, ↓okSt_N, ↓okSt_s, ↓rtI_s, ↓rtV_n, ↓brP_t, ↓brP_f, ↓sHelp_spell_0, ↓sHelp_spell_1, ↓sHelp_spell_2, ↓sHelp_spell_5, ↓sHelp_spell_6, ↓sHelp_spell_8, ↓sHelp_spell_11, ↓sHelp_spell_12, ↓sHelp_spell_13, ↓sHelp_spell_14, ↓sHelp_spell_15, ↓sHelp_spell_16, ↓sHelp_spell_17, ↓sHelp_spell_20, ↓sHelp_spell_21, ↓rf_0_0, ↓sHelp_spell_24, ↓sHelp_spell_25, ↓sHelp_spell_26, ↓sHelp_spell_28, ↓sHelp_spell_31, ↓sHelp_spell_32, ↓sHelp_spell_35, ↓sHelp_spell_36, ↓sHelp_spell_37, ↓sHelp_spell_39, ↓sHelp_spell_42, ↓sHelp_spell_43, ↓sHelp_spell_44, ↓sHelp_spell_45, ↓rf_0_2, ↓sHelp_spell_48, ↓sHelp_spell_49, ↓sHelp_spell_50, ↓sHelp_spell_53, ↓sHelp_spell_54, ↓sHelp_spell_55, ↓sHelp_spell_57, ↓sHelp_spell_58, ↓sHelp_spell_59, ↓sHelp_spell_62, ↓sHelp_spell_65, ↓sHelp_spell_66, ↓ln_1, ↓ln_2, List.set_cons_zero, List.set_cons_succ, List.length_cons, List.length_nil, List.contains_cons, List.contains_nil, cat1, brP_d, true_and, and_true, not_false_eq_true, not_true_eq_false, if_true, if_false, Bool.or_false, Bool.false_or, Bool.or_true, Bool.true_or, Bool.false_eq_true, Bool.or_self, false_implies, true_implies, forall_const, and_self, implies_true, true_or, or_true, or_false, false_or, or_self, Classical.not_not, Int.reduceAdd, Int.reduceSub, Int.reduceMul, Int.reduceNeg, Int.reduceToNat, Int.reduceLT, Int.reduceLE, Int.reduceEq, Int.reduceNe, Int.reduceNatCast', Nat.reduceAdd, Nat.reduceSub, Nat.reduceLeDiff, Nat.reduceLT, Nat.reduceEqDiff, Nat.reduceBEq, reduceIte, nx_w, nx_c, up_n, up_s, up_f, ne_eq, Nat.reduceEqDiff, Option.some.injEq, Prod.mk.injEq, exists_eq_left', reduceCtorEq, h4 1 (by decide)]
    refine ⟨fun h6 => ⟨h4, Or.inr ⟨rfl, ⟨by omega, by omega, fun j hj => ⟨(h5 j (by omega)).1, (h5 j (by omega)).2.1⟩⟩, fun j hj => (h5 j (by omega)).2.2⟩⟩, fun h6 => ⟨by omega, fun h7 => ?_, fun h7 => ⟨by omega, fun h8 => ?_, fun h8 => ?_⟩⟩⟩
    · exact ⟨h4, Or.inl ⟨rfl, fun hs => by have := hs.2.2 i.toNat (by omega); omega⟩⟩
    · rw [wr_id (x := h0 1 i.toNat - 97) (by omega) (by omega), wr_id (x := i + 1) (by omega) (by omega)]
      refine ⟨by omega, by omega, ih (i + 1) _ (by omega) (by omega) (by omega) (fun a ha => by rw [up_ne ha]; exact h4 a ha) (fun j hj => ?_)⟩
      by_cases e : (j : Int) = i
      · have : j = i.toNat := by omega
        subst this
        exact ⟨by omega, h8, up_s⟩
      · have := h5 j (by omega)
        rw [up_f (by omega)]
        exact this
    · exact ⟨h4, Or.inl ⟨rfl, fun hs => by have := hs.2.2 i.toNat (by omega); omega⟩⟩
set_option maxRecDepth 100000 in
set_option maxHeartbeats 4000000 in
theorem t_Help_spell (h : HP) (l : Int) : trI mHelp_spell [.inr (.inr 0), .inl l] SH0 h (qSpell h l) := by
  refine startI [some (.inr (.inr 0)), some (.inl l), none] mHelp_spell_c (go [15] 400 (k := ?_))
  simp (config := {maxSteps := 1000000}) only [↓pI_c, ↓pR_c, ↓pJ_c, ↓pV_c, ↓popN_0, ↓popN_s, ↓lI_0, ↓lR_0, ↓lJ_0, ↓lI_s, ↓lR_s, ↓lJ_s, ↓okSt_0, ↓okSt_I, ↓okSt_R, ↓okSt_N, ↓okSt_s, ↓rtI_s, ↓rtV_n, ↓brP_t, ↓brP_f, ↓sHelp_spell_0, ↓sHelp_spell_1, ↓sHelp_spell_2, ↓sHelp_spell_5, ↓sHelp_spell_6, ↓sHelp_spell_8, ↓sHelp_spell_11, ↓sHelp_spell_12, ↓sHelp_spell_13, ↓sHelp_spell_14, ↓sHelp_spell_15, ↓sHelp_spell_16, ↓sHelp_spell_17, ↓sHelp_spell_20, ↓sHelp_spell_21, ↓rf_0_0, ↓sHelp_spell_24, ↓sHelp_spell_25, ↓sHelp_spell_26, ↓sHelp_spell_28, ↓sHelp_spell_31, ↓sHelp_spell_32, ↓sHelp_spell_35, ↓sHelp_spell_36, ↓sHelp_spell_37, ↓sHelp_spell_39, ↓sHelp_spell_42, ↓sHelp_spell_43, ↓sHelp_spell_44, ↓sHelp_spell_45, ↓rf_0_2, ↓sHelp_spell_48, ↓sHelp_spell_49, ↓sHelp_spell_50, ↓sHelp_spell_53, ↓sHelp_spell_54, ↓sHelp_spell_55, ↓sHelp_spell_57, ↓sHelp_spell_58, ↓sHelp_spell_59, ↓sHelp_spell_62, ↓sHelp_spell_65, ↓sHelp_spell_66, ↓ln_1, ↓ln_2, List.set_cons_zero, List.set_cons_succ, List.length_cons, List.length_nil, List.contains_cons, List.contains_nil, cat1, brP_d, true_and, and_true, not_false_eq_true, not_true_eq_false, if_true, if_false, Bool.or_false, Bool.false_or, Bool.or_true, Bool.true_or, Bool.false_eq_true, Bool.or_self, false_implies, true_implies, forall_const, and_self, implies_true, true_or, or_true, or_false, false_or, or_self, Classical.not_not, Int.reduceAdd, Int.reduceSub, Int.reduceMul, Int.reduceNeg, Int.reduceToNat, Int.reduceLT, Int.reduceLE, Int.reduceEq, Int.reduceNe, Int.reduceNatCast', Nat.reduceAdd, Nat.reduceSub, Nat.reduceLeDiff, Nat.reduceLT, Nat.reduceEqDiff, Nat.reduceBEq, reduceIte, nx_w, nx_c, up_n, up_s, up_f, ne_eq, Nat.reduceEqDiff, Option.some.injEq, Prod.mk.injEq, exists_eq_left', reduceCtorEq]
  refine ⟨fun h1 => ?_, fun h1 => ⟨fun h2 => ?_, fun h2 => ?_⟩⟩
  · exact ⟨fun _ _ => rfl, Or.inl ⟨rfl, fun hs => by have := hs.1; omega⟩⟩
  · exact l_Help_spell h l (by omega) (l.toNat + 1) 0 h (by omega) (by omega) (by omega) (fun _ _ => rfl) (fun j hj => by omega)
  · exact ⟨fun _ _ => rfl, Or.inl ⟨rfl, fun hs => by have := hs.2.1; omega⟩⟩
def wAdd (h : HP) (kd : Int) : HP := up (up (up h 11 (h 10 4).toNat kd) 13 (h 10 4).toNat (if kd = 1 then 0 else 1)) 10 4 (h 10 4 + 1)
set_option maxRecDepth 100000 in
set_option maxHeartbeats 4000000 in
theorem t_Words_add (h : HP) (kd : Int) (hw : 0 ≤ h 10 4 ∧ h 10 4 < 60) : trI mWords_add [.inr (.inr 10), .inl kd] SH0 h (fun r h' => h' = wAdd h kd ∧ r = h 10 4) := by
  refine startI [some (.inr (.inr 10)), some (.inl kd), none] mWords_add_c (go [9999] 400 (k := ?_))
  simp (config := {maxSteps := 1000000}) only [↓pI_c, ↓pR_c, ↓pJ_c, ↓pV_c, ↓popN_0, ↓popN_s, ↓lI_0, ↓lR_0, ↓lJ_0, ↓lI_s, ↓lR_s, ↓lJ_s, ↓okSt_0, ↓okSt_I, ↓okSt_R, ↓okSt_N, ↓okSt_s, ↓rtI_s, ↓rtV_n, ↓brP_t, ↓brP_f, ↓sWords_add_0, ↓sWords_add_1, ↓rf_10_4, ↓sWords_add_4, ↓sWords_add_5, ↓sWords_add_6, ↓rf_10_0, ↓sWords_add_9, ↓sWords_add_10, ↓sWords_add_11, ↓sWords_add_12, ↓sWords_add_13, ↓rf_10_2, ↓sWords_add_16, ↓sWords_add_17, ↓sWords_add_18, ↓sWords_add_19, ↓sWords_add_22, ↓sWords_add_23, ↓sWords_add_26, ↓sWords_add_27, ↓sWords_add_28, ↓sWords_add_29, ↓sWords_add_30, ↓sWords_add_33, ↓sWords_add_34, ↓sWords_add_35, ↓sWords_add_38, ↓sWords_add_39, ↓ln_11, ↓ln_13, List.set_cons_zero, List.set_cons_succ, List.length_cons, List.length_nil, List.contains_cons, List.contains_nil, cat1, brP_d, true_and, and_true, not_false_eq_true, not_true_eq_false, if_true, if_false, Bool.or_false, Bool.false_or, Bool.or_true, Bool.true_or, Bool.false_eq_true, Bool.or_self, false_implies, true_implies, forall_const, and_self, implies_true, true_or, or_true, or_false, false_or, or_self, Classical.not_not, Int.reduceAdd, Int.reduceSub, Int.reduceMul, Int.reduceNeg, Int.reduceToNat, Int.reduceLT, Int.reduceLE, Int.reduceEq, Int.reduceNe, Int.reduceNatCast', Nat.reduceAdd, Nat.reduceSub, Nat.reduceLeDiff, Nat.reduceLT, Nat.reduceEqDiff, Nat.reduceBEq, reduceIte, nx_w, nx_c, up_n, up_s, up_f, ne_eq, Nat.reduceEqDiff, Option.some.injEq, Prod.mk.injEq, exists_eq_left', reduceCtorEq]
  rw [wr_id (x := h 10 4 + 1) (by omega) (by omega)]
  grind [wAdd]
def qWord (h : HP) (kd r : Int) (h' : HP) : Prop := ∃ hs : HP, (∀ a, a ≠ 2 → hs a = up h 0 1 0 a) ∧
  ((¬ (0 ≤ kd ∧ kd ≤ 3 ∧ spP (h 1) (h 0 1)) ∧ r = -2 ∧ h' = hs) ∨ ((0 ≤ kd ∧ kd ≤ 3 ∧ spP (h 1) (h 0 1)) ∧ (∃ k : Nat, (k : Int) < h 6 3 ∧ mt h (fun j => h 1 j - 97) (h 0 1) k) ∧ r = -3 ∧ h' = hs) ∨
   ((0 ≤ kd ∧ kd ≤ 3 ∧ spP (h 1) (h 0 1)) ∧ (¬ ∃ k : Nat, (k : Int) < h 6 3 ∧ mt h (fun j => h 1 j - 97) (h 0 1) k) ∧ (60 ≤ h 10 4 ∨ 90 ≤ h 6 3) ∧ r = -4 ∧ h' = hs) ∨
   ((0 ≤ kd ∧ kd ≤ 3 ∧ spP (h 1) (h 0 1)) ∧ (¬ ∃ k : Nat, (k : Int) < h 6 3 ∧ mt h (fun j => h 1 j - 97) (h 0 1) k) ∧ h 10 4 < 60 ∧ h 6 3 < 90 ∧ r = h 10 4 ∧ (∀ i : Nat, (i : Int) < h 0 1 → hs 2 i = h 1 i - 97) ∧ h' = addNm (wAdd hs kd) 2 0 (h 0 1) (h 10 4)))
theorem mt_congr {h h' : HP} {r r' : Nat → Int} {l : Int} {k : Nat} (e7 : h' 7 = h 7) (e8 : h' 8 = h 8) (er : ∀ i : Nat, (i : Int) < l → r' i = r i) : mt h' r' l k ↔ mt h r l k := by
  unfold mt
  rw [e7, e8]
  constructor
  · rintro ⟨h1, h2⟩
    exact ⟨h1, fun i hi => by rw [h2 i hi, er i hi]⟩
  · rintro ⟨h1, h2⟩
    exact ⟨h1, fun i hi => by rw [h2 i hi, er i hi]⟩
set_option maxRecDepth 100000 in
set_option maxHeartbeats 4000000 in
theorem t_Help_word (h : HP) (kd : Int) (hw : 0 ≤ h 10 4 ∧ h 10 4 ≤ 60) (hn : 0 ≤ h 6 3 ∧ h 6 3 ≤ 90) (hln : ∀ k : Nat, (k : Int) < h 6 3 → h 8 k ≤ 12) : trI mHelp_word [.inr (.inr 0), .inl kd] SH0 h (qWord h kd) := by
  refine startI [some (.inr (.inr 0)), some (.inl kd), none, none] mHelp_word_c (go [9999] 400 (k := ?_))
  simp (config := {maxSteps := 1000000}) only [↓pI_c, ↓pR_c, ↓pJ_c, ↓pV_c, ↓popN_0, ↓popN_s, ↓lI_0, ↓lR_0, ↓lJ_0, ↓lI_s, ↓lR_s, ↓lJ_s, ↓okSt_0, ↓okSt_I, ↓okSt_R, ↓okSt_N, ↓okSt_s, ↓rtI_s, ↓rtV_n, ↓brP_t, ↓brP_f, ↓sHelp_word_0, ↓sHelp_word_1, ↓rf_0_1, ↓sHelp_word_4, ↓sHelp_word_5, ↓sHelp_word_6, ↓sHelp_word_7, ↓sHelp_word_10, ↓sHelp_word_11, ↓sHelp_word_14, ↓sHelp_word_15, ↓sHelp_word_16, ↓sHelp_word_19, ↓sHelp_word_20, ↓sHelp_word_21, ↓sHelp_word_24, ↓sHelp_word_27, ↓sHelp_word_29, ↓sHelp_word_30, ↓sHelp_word_31, ↓rf_0_4, ↓sHelp_word_34, ↓sHelp_word_35, ↓rf_0_2, ↓sHelp_word_38, ↓sHelp_word_39, ↓sHelp_word_40, ↓sHelp_word_43, ↓sHelp_word_44, ↓sHelp_word_47, ↓sHelp_word_49, ↓sHelp_word_50, ↓sHelp_word_51, ↓rf_0_5, ↓sHelp_word_54, ↓rf_10_4, ↓sHelp_word_57, ↓sHelp_word_59, ↓sHelp_word_62, ↓sHelp_word_63, ↓sHelp_word_66, ↓rf_6_3, ↓sHelp_word_69, ↓sHelp_word_71, ↓sHelp_word_74, ↓sHelp_word_76, ↓sHelp_word_77, ↓sHelp_word_78, ↓sHelp_word_81, ↓sHelp_word_82, ↓sHelp_word_85, ↓sHelp_word_86, ↓sHelp_word_87, ↓sHelp_word_90, ↓sHelp_word_91, ↓sHelp_word_94, ↓sHelp_word_95, ↓sHelp_word_96, ↓sHelp_word_97, ↓sHelp_word_100, ↓sHelp_word_101, ↓sHelp_word_102, ↓ln_2, List.set_cons_zero, List.set_cons_succ, List.length_cons, List.length_nil, List.contains_cons, List.contains_nil, cat1, brP_d, true_and, and_true, not_false_eq_true, not_true_eq_false, if_true, if_false, Bool.or_false, Bool.false_or, Bool.or_true, Bool.true_or, Bool.false_eq_true, Bool.or_self, false_implies, true_implies, forall_const, and_self, implies_true, true_or, or_true, or_false, false_or, or_self, Classical.not_not, Int.reduceAdd, Int.reduceSub, Int.reduceMul, Int.reduceNeg, Int.reduceToNat, Int.reduceLT, Int.reduceLE, Int.reduceEq, Int.reduceNe, Int.reduceNatCast', Nat.reduceAdd, Nat.reduceSub, Nat.reduceLeDiff, Nat.reduceLT, Nat.reduceEqDiff, Nat.reduceBEq, reduceIte, nx_w, nx_c, up_n, up_s, up_f, ne_eq, Nat.reduceEqDiff, Option.some.injEq, Prod.mk.injEq, exists_eq_left', reduceCtorEq, ob_0, ob_6, ob_10]
  refine ⟨fun h1 => ?_, fun h1 => ⟨fun h2 => ?_, fun h2 => ?_⟩⟩
  · exact ⟨_, fun _ _ => rfl, Or.inl ⟨fun z => by omega, rfl, rfl⟩⟩
  · exact ⟨_, fun _ _ => rfl, Or.inl ⟨fun z => by omega, rfl, rfl⟩⟩
  · refine trI_use (t_Help_spell (up h 0 1 0) (h 0 1)) ?_
    intro r hs hq
    obtain ⟨hq1, hq2⟩ := hq
    have e1 : up h 0 1 0 1 = h 1 := up_ne (by decide)
    rw [e1] at hq2
    have f6 : hs 6 = h 6 := by rw [hq1 6 (by decide), up_ne (by decide)]
    have f7 : hs 7 = h 7 := by rw [hq1 7 (by decide), up_ne (by decide)]
    have f8 : hs 8 = h 8 := by rw [hq1 8 (by decide), up_ne (by decide)]
    have f10 : hs 10 = h 10 := by rw [hq1 10 (by decide), up_ne (by decide)]
    rcases hq2 with ⟨rfl, hsp⟩ | ⟨rfl, hsp, hsl⟩
    · simp only [true_implies, not_true_eq_false, false_implies, and_true, true_and]
      exact ⟨hs, hq1, Or.inl ⟨fun z => hsp z.2.2, rfl, rfl⟩⟩
    · simp only [show ¬ (1 : Int) = 0 by decide, false_implies, not_false_eq_true, true_implies, true_and, and_true]
      refine use_q (t_Names_find hs 2 12 0 (h 0 1) (fun f => ln_2.2) (by have := hsp.1; omega) (by have := hsp.2.1; omega) (by rw [f6]; exact hn) (by rw [f6, f8]; exact hln)) ?_
      intro x hx
      have hm : ∀ k : Nat, mt hs (fun j => hs 2 ((0 : Int).toNat + j)) (h 0 1) k ↔ mt h (fun j => h 1 j - 97) (h 0 1) k := fun k => mt_congr f7 f8 (fun i hi => by rw [show (0 : Int).toNat + i = i by omega]; exact hsl i hi)
      unfold isF at hx
      rw [f6] at hx
      simp only [hm] at hx
      have hgd : 0 ≤ kd ∧ kd ≤ 3 ∧ spP (h 1) (h 0 1) := ⟨by omega, by omega, hsp⟩
      rcases hx with ⟨rfl, hno⟩ | ⟨k, hk, rfl, hmk⟩
      · simp only [true_implies, not_true_eq_false, false_implies, and_true, f10, f6]
        have hno' : ¬ ∃ k : Nat, (k : Int) < h 6 3 ∧ mt h (fun j => h 1 j - 97) (h 0 1) k := fun ⟨k, hk, hm⟩ => hno k hk hm
        have full : (60 ≤ h 10 4 ∨ 90 ≤ h 6 3) → qWord h kd (-4) hs := fun hf => ⟨hs, hq1, Or.inr (Or.inr (Or.inl ⟨hgd, hno', hf, rfl, rfl⟩))⟩
        refine ⟨fun h3 => full (Or.inl h3), fun h3 => ⟨fun h4 => ?_, fun h4 => full (Or.inr (by omega))⟩⟩
        refine trI_use (t_Words_add hs kd (by rw [f10]; omega)) ?_
        rintro _ _ ⟨rfl, rfl⟩
        have g6 : wAdd hs kd 6 = h 6 := by unfold wAdd; rw [up_ne (by decide), up_ne (by decide), up_ne (by decide), f6]
        refine trI_use (t_Names_add (wAdd hs kd) 2 12 0 (h 0 1) (hs 10 4) ar_2.1 (by have := hsp.1; have := hsp.2.1; omega) (by have := hsp.2.1; omega) (by rw [g6]; omega)) ?_
        rintro _ _ ⟨rfl, rfl⟩
        rw [f10]
        exact ⟨hs, hq1, Or.inr (Or.inr (Or.inr ⟨hgd, hno', by omega, by omega, rfl, hsl, rfl⟩))⟩
      · have : ¬ (k : Int) = -1 := by omega
        simp only [this, false_implies, not_false_eq_true, true_implies, true_and]
        exact ⟨hs, hq1, Or.inr (Or.inl ⟨hgd, ⟨k, hk, hmk⟩, rfl, rfl⟩)⟩
-- the reference
def addM (h : HP) (kr : Nat) (a l o : Int) : HP := up (up (up (cpy h kr 48 a.toNat (12 * h 43 6).toNat l.toNat) 49 (h 43 6).toNat l) 50 (h 43 6).toNat o) 43 6 (h 43 6 + 1)
set_option maxRecDepth 100000 in
set_option maxHeartbeats 4000000 in
theorem l_Model_name (h : HP) (kr nr : Nat) (a l o : Int) (hkr : ∀ f, lenP 0 (rdAt SH0 kr) f = f nr) (hk48 : kr ≠ 48) (hl : 0 ≤ l ∧ l ≤ 12) (ha : 0 ≤ a ∧ a + l ≤ nr ∧ nr < 10000) (hn : 0 ≤ h 43 6 ∧ h 43 6 < 90) : ∀ (d : Nat) (i : Int), l - i < d → 0 ≤ i → i ≤ l → Wn Z4 mModel_name SH0 3 [some (.inr (.inr 43)), some (.inr (.inr (kr))), some (.inl a), some (.inl l), some (.inl o), some (.inl i)] [] (cpy h kr 48 a.toNat (12 * h 43 6).toNat i.toNat) (rtV (fun h' => h' = addM h kr a l o)) := by
  have e43 : ∀ n b, cpy h kr 48 a.toNat (12 * h 43 6).toNat n 43 b = h 43 b := fun n b => by rw [cpy_ne (by decide)]
  have ekr : ∀ n b, cpy h kr 48 a.toNat (12 * h 43 6).toNat n kr b = h kr b := fun n b => by rw [cpy_ne hk48]
  intro d
  induction d with
  | zero => intro i h1 h2 h3; omega
  | succ d ih =>
    intro i h1 h2 h3
    refine go [3] 400 (k := ?_)
    simp (config := {maxSteps := 1000000}) only [↓pI_c, ↓pR_c, ↓pJ_c, ↓pV_c, ↓popN_0, ↓popN_s, ↓lI_0, ↓lR_0, ↓lJ_0, ↓lI_s, ↓lR_s, ↓lJ_s, ↓okSt_0, ↓okSt_I, ↓okSt_R, ↓okSt_N, ↓okSt_s, ↓rtI_s, ↓rtV_n, ↓brP_t, ↓brP_f, ↓sModel_name_0, ↓sModel_name_1, ↓sModel_name_3, ↓sModel_name_5, ↓sModel_name_6, ↓sModel_name_9, ↓sModel_name_10, ↓rf_43_7, ↓sModel_name_13, ↓sModel_name_15, ↓sModel_name_16, ↓rf_43_6, ↓sModel_name_19, ↓sModel_name_20, ↓sModel_name_22, ↓sModel_name_23, ↓sModel_name_24, ↓sModel_name_25, ↓sModel_name_27, ↓sModel_name_28, ↓sModel_name_29, ↓sModel_name_30, ↓sModel_name_33, ↓sModel_name_36, ↓sModel_name_37, ↓rf_43_8, ↓sModel_name_40, ↓sModel_name_41, ↓sModel_name_44, ↓sModel_name_45, ↓sModel_name_46, ↓sModel_name_47, ↓rf_43_9, ↓sModel_name_50, ↓sModel_name_51, ↓sModel_name_54, ↓sModel_name_56, ↓sModel_name_57, ↓sModel_name_58, ↓sModel_name_59, ↓sModel_name_62, ↓sModel_name_63, ↓sModel_name_64, ↓sModel_name_67, ↓ln_48, ↓ln_49, ↓ln_50, List.set_cons_zero, List.set_cons_succ, List.length_cons, List.length_nil, List.contains_cons, List.contains_nil, cat1, brP_d, true_and, and_true, not_false_eq_true, not_true_eq_false, if_true, if_false, Bool.or_false, Bool.false_or, Bool.or_true, Bool.true_or, Bool.false_eq_true, Bool.or_self, false_implies, true_implies, forall_const, and_self, implies_true, true_or, or_true, or_false, false_or, or_self, Classical.not_not, Int.reduceAdd, Int.reduceSub, Int.reduceMul, Int.reduceNeg, Int.reduceToNat, Int.reduceLT, Int.reduceLE, Int.reduceEq, Int.reduceNe, Int.reduceNatCast', Nat.reduceAdd, Nat.reduceSub, Nat.reduceLeDiff, Nat.reduceLT, Nat.reduceEqDiff, Nat.reduceBEq, reduceIte, nx_w, nx_c, up_n, up_s, up_f, ne_eq, Nat.reduceEqDiff, Option.some.injEq, Prod.mk.injEq, exists_eq_left', reduceCtorEq, ↓hkr, e43, ekr]
    refine ⟨fun h5 => ?_, fun h5 => ?_⟩
    · rw [wr_id (x := h 43 6 + 1) (by omega) (by omega), show i = l by omega]
      exact ⟨by omega, by omega, rfl⟩
    · rw [wr_id (x := 12 * h 43 6) (by omega) (by omega), wr_id (x := 12 * h 43 6 + i) (by omega) (by omega), wr_id (x := a + i) (by omega) (by omega), wr_id (x := i + 1) (by omega) (by omega)]
      refine ⟨by omega, by omega, ?_⟩
      have := ih (i + 1) (by omega) (by omega) (by omega)
      rw [show (i + 1).toNat = i.toNat + 1 by omega, ← cpy_s] at this
      rw [show (12 * h 43 6 + i).toNat = (12 * h 43 6).toNat + i.toNat by omega, show (a + i).toNat = a.toNat + i.toNat by omega]
      exact this
set_option maxRecDepth 100000 in
set_option maxHeartbeats 4000000 in
theorem t_Model_name (h : HP) (kr nr : Nat) (a l o : Int) (hkr : ∀ f, lenP 0 (rdAt SH0 kr) f = f nr) (hk48 : kr ≠ 48) (hl : 0 ≤ l ∧ l ≤ 12) (ha : 0 ≤ a ∧ a + l ≤ nr ∧ nr < 10000) (hn : 0 ≤ h 43 6 ∧ h 43 6 < 90) : trV mModel_name [.inr (.inr 43), .inr (.inr (kr)), .inl a, .inl l, .inl o] SH0 h (fun h' => h' = addM h kr a l o) := by
  refine startV [some (.inr (.inr 43)), some (.inr (.inr (kr))), some (.inl a), some (.inl l), some (.inl o), none] mModel_name_c (go [3] 400 (k := ?_))
  simp (config := {maxSteps := 1000000}) only [↓pI_c, ↓pR_c, ↓pJ_c, ↓pV_c, ↓popN_0, ↓popN_s, ↓lI_0, ↓lR_0, ↓lJ_0, ↓lI_s, ↓lR_s, ↓lJ_s, ↓okSt_0, ↓okSt_I, ↓okSt_R, ↓okSt_N, ↓okSt_s, ↓rtI_s, ↓rtV_n, ↓brP_t, ↓brP_f, ↓sModel_name_0, ↓sModel_name_1, ↓sModel_name_3, ↓sModel_name_5, ↓sModel_name_6, ↓sModel_name_9, ↓sModel_name_10, ↓rf_43_7, ↓sModel_name_13, ↓sModel_name_15, ↓sModel_name_16, ↓rf_43_6, ↓sModel_name_19, ↓sModel_name_20, ↓sModel_name_22, ↓sModel_name_23, ↓sModel_name_24, ↓sModel_name_25, ↓sModel_name_27, ↓sModel_name_28, ↓sModel_name_29, ↓sModel_name_30, ↓sModel_name_33, ↓sModel_name_36, ↓sModel_name_37, ↓rf_43_8, ↓sModel_name_40, ↓sModel_name_41, ↓sModel_name_44, ↓sModel_name_45, ↓sModel_name_46, ↓sModel_name_47, ↓rf_43_9, ↓sModel_name_50, ↓sModel_name_51, ↓sModel_name_54, ↓sModel_name_56, ↓sModel_name_57, ↓sModel_name_58, ↓sModel_name_59, ↓sModel_name_62, ↓sModel_name_63, ↓sModel_name_64, ↓sModel_name_67, ↓ln_48, ↓ln_49, ↓ln_50, List.set_cons_zero, List.set_cons_succ, List.length_cons, List.length_nil, List.contains_cons, List.contains_nil, cat1, brP_d, true_and, and_true, not_false_eq_true, not_true_eq_false, if_true, if_false, Bool.or_false, Bool.false_or, Bool.or_true, Bool.true_or, Bool.false_eq_true, Bool.or_self, false_implies, true_implies, forall_const, and_self, implies_true, true_or, or_true, or_false, false_or, or_self, Classical.not_not, Int.reduceAdd, Int.reduceSub, Int.reduceMul, Int.reduceNeg, Int.reduceToNat, Int.reduceLT, Int.reduceLE, Int.reduceEq, Int.reduceNe, Int.reduceNatCast', Nat.reduceAdd, Nat.reduceSub, Nat.reduceLeDiff, Nat.reduceLT, Nat.reduceEqDiff, Nat.reduceBEq, reduceIte, nx_w, nx_c, up_n, up_s, up_f, ne_eq, Nat.reduceEqDiff, Option.some.injEq, Prod.mk.injEq, exists_eq_left', reduceCtorEq]
  have := l_Model_name h kr nr a l o hkr hk48 hl ha hn (l.toNat + 1) 0 (by omega) (by omega) hl.1
  rw [show (0 : Int).toNat = 0 from rfl, cpy_0] at this
  exact this
