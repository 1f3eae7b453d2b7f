/-! names: sameLetters, find, add, firstOf, countOf, spell; the reference's named, name -/
theorem len_of {k n : Nat} (hk : arrAt SH0 k = some (0, n)) (hk1 : k < 1000) (f : Nat → Prop) : lenP 0 (arrAt SH0 k) f = f n ∧ lenP 0 (rdAt SH0 k) f = f n := by
  have e : rdAt SH0 k = some (0, n) := by unfold rdAt; rw [if_neg (by omega)]; exact hk
  rw [hk, e, lenP_s]
  simp only [true_and, and_self]
def sl (h : HP) (ka a kb b : Nat) (l : Int) : Prop := ∀ i : Nat, (i : Int) < l → h ka (a + i) = h kb (b + i)
set_option maxRecDepth 100000 in
set_option maxHeartbeats 4000000 in
theorem l_sameLetters (h : HP) (ka kb na nb : Nat) (a b l : Int) (hka : ∀ f, lenP 0 (rdAt SH0 ka) f = f na) (hkb : ∀ f, lenP 0 (rdAt SH0 kb) f = f nb) (ha : 0 ≤ a ∧ a + l ≤ na ∧ na < 10000) (hb : 0 ≤ b ∧ b + l ≤ nb ∧ nb < 10000) : ∀ (d : Nat) (i : Int), l - i < d → 0 ≤ i → i ≤ l → (∀ j : Nat, (j : Int) < i → h ka (a.toNat + j) = h kb (b.toNat + j)) → Wn Z4 mHelp_sameLetters SH0 3 [some (.inr (.inr (ka))), some (.inl a), some (.inr (.inr (kb))), some (.inl b), some (.inl l), some (.inl i)] [] h (rtI (fun r h' => h' = h ∧ (r = 1 ∧ sl h ka a.toNat kb b.toNat l ∨ r = 0 ∧ ¬ sl h ka a.toNat kb b.toNat l))) := by
  intro d
  induction d with
  | zero => intro i h1 h2 h3; omega
  | succ d ih =>
    intro i h1 h2 h3 h4
    refine go [3] 400 (k := ?_)
    simp (config := {maxSteps := 1000000}) only [↓pI_c, ↓pR_c, ↓pJ_c, ↓pV_c, ↓popN_0, ↓popN_s, ↓lI_0, ↓lR_0, ↓lJ_0, ↓lI_s, ↓lR_s, ↓lJ_s, ↓okSt_0, ↓okSt_I, ↓okSt_R, ↓okSt_N, ↓okSt_s, ↓rtI_s, ↓rtV_n, ↓brP_t, ↓brP_f, ↓sHelp_sameLetters_0, ↓sHelp_sameLetters_1, ↓sHelp_sameLetters_3, ↓sHelp_sameLetters_5, ↓sHelp_sameLetters_7, ↓sHelp_sameLetters_10, ↓sHelp_sameLetters_11, ↓sHelp_sameLetters_12, ↓sHelp_sameLetters_14, ↓sHelp_sameLetters_15, ↓sHelp_sameLetters_16, ↓sHelp_sameLetters_17, ↓sHelp_sameLetters_18, ↓sHelp_sameLetters_20, ↓sHelp_sameLetters_21, ↓sHelp_sameLetters_22, ↓sHelp_sameLetters_25, ↓sHelp_sameLetters_26, ↓sHelp_sameLetters_27, ↓sHelp_sameLetters_30, ↓sHelp_sameLetters_33, ↓sHelp_sameLetters_34, List.set_cons_zero, List.set_cons_succ, List.length_cons, List.length_nil, List.contains_cons, List.contains_nil, cat1, brP_d, true_and, and_true, not_false_eq_true, not_true_eq_false, if_true, if_false, Bool.or_false, Bool.false_or, Bool.or_true, Bool.true_or, Bool.false_eq_true, Bool.or_self, false_implies, true_implies, forall_const, and_self, implies_true, true_or, or_true, or_false, false_or, or_self, Classical.not_not, Int.reduceAdd, Int.reduceSub, Int.reduceMul, Int.reduceNeg, Int.reduceToNat, Int.reduceLT, Int.reduceLE, Int.reduceEq, Int.reduceNe, Int.reduceNatCast', Nat.reduceAdd, Nat.reduceSub, Nat.reduceLeDiff, Nat.reduceLT, Nat.reduceEqDiff, Nat.reduceBEq, reduceIte, nx_w, nx_c, up_n, up_s, up_f, ne_eq, Nat.reduceEqDiff, Option.some.injEq, Prod.mk.injEq, exists_eq_left', reduceCtorEq, ↓hka, ↓hkb]
    constructor
    · intro h5
      exact Or.inl (fun j hj => h4 j (by omega))
    · intro h5
      rw [wr_id (x := a + i) (by omega) (by omega), wr_id (x := b + i) (by omega) (by omega), wr_id (x := i + 1) (by omega) (by omega)]
      have e1 : (a + i).toNat = a.toNat + i.toNat := by omega
      have e2 : (b + i).toNat = b.toNat + i.toNat := by omega
      refine ⟨by omega, by omega, fun h6 => ih (i + 1) (by omega) (by omega) (by omega) (fun j hj => ?_), fun h6 => ?_⟩
      · by_cases e : (j : Int) = i
        · rw [show j = i.toNat by omega, ← e1, ← e2]
          exact h6
        · exact h4 j (by omega)
      · exact Or.inr (fun hs => h6 (by rw [e1, e2]; exact hs i.toNat (by omega)))
set_option maxRecDepth 100000 in
set_option maxHeartbeats 4000000 in
theorem t_sameLetters (h : HP) (ka kb na nb : Nat) (a b l : Int) (hka : ∀ f, lenP 0 (rdAt SH0 ka) f = f na) (hkb : ∀ f, lenP 0 (rdAt SH0 kb) f = f nb) (hl : 0 ≤ l) (ha : 0 ≤ a ∧ a + l ≤ na ∧ na < 10000) (hb : 0 ≤ b ∧ b + l ≤ nb ∧ nb < 10000) : trI mHelp_sameLetters [.inr (.inr (ka)), .inl a, .inr (.inr (kb)), .inl b, .inl l] SH0 h (fun r h' => h' = h ∧ (r = 1 ∧ sl h ka a.toNat kb b.toNat l ∨ r = 0 ∧ ¬ sl h ka a.toNat kb b.toNat l)) := by
  refine startI [some (.inr (.inr (ka))), some (.inl a), some (.inr (.inr (kb))), some (.inl b), some (.inl l), none] mHelp_sameLetters_c (go [3] 400 (k := ?_))
  simp (config := {maxSteps := 1000000}) only [↓pI_c, ↓pR_c, ↓pJ_c, ↓pV_c, ↓popN_0, ↓popN_s, ↓lI_0, ↓lR_0, ↓lJ_0, ↓lI_s, ↓lR_s, ↓lJ_s, ↓okSt_0, ↓okSt_I, ↓okSt_R, ↓okSt_N, ↓okSt_s, ↓rtI_s, ↓rtV_n, ↓brP_t, ↓brP_f, ↓sHelp_sameLetters_0, ↓sHelp_sameLetters_1, ↓sHelp_sameLetters_3, ↓sHelp_sameLetters_5, ↓sHelp_sameLetters_7, ↓sHelp_sameLetters_10, ↓sHelp_sameLetters_11, ↓sHelp_sameLetters_12, ↓sHelp_sameLetters_14, ↓sHelp_sameLetters_15, ↓sHelp_sameLetters_16, ↓sHelp_sameLetters_17, ↓sHelp_sameLetters_18, ↓sHelp_sameLetters_20, ↓sHelp_sameLetters_21, ↓sHelp_sameLetters_22, ↓sHelp_sameLetters_25, ↓sHelp_sameLetters_26, ↓sHelp_sameLetters_27, ↓sHelp_sameLetters_30, ↓sHelp_sameLetters_33, ↓sHelp_sameLetters_34, List.set_cons_zero, List.set_cons_succ, List.length_cons, List.length_nil, List.contains_cons, List.contains_nil, cat1, brP_d, true_and, and_true, not_false_eq_true, not_true_eq_false, if_true, if_false, Bool.or_false, Bool.false_or, Bool.or_true, Bool.true_or, Bool.false_eq_true, Bool.or_self, false_implies, true_implies, forall_const, and_self, implies_true, true_or, or_true, or_false, false_or, or_self, Classical.not_not, Int.reduceAdd, Int.reduceSub, Int.reduceMul, Int.reduceNeg, Int.reduceToNat, Int.reduceLT, Int.reduceLE, Int.reduceEq, Int.reduceNe, Int.reduceNatCast', Nat.reduceAdd, Nat.reduceSub, Nat.reduceLeDiff, Nat.reduceLT, Nat.reduceEqDiff, Nat.reduceBEq, reduceIte, nx_w, nx_c, up_n, up_s, up_f, ne_eq, Nat.reduceEqDiff, Option.some.injEq, Prod.mk.injEq, exists_eq_left', reduceCtorEq]
  exact l_sameLetters h ka kb na nb a b l hka hkb ha hb (l.toNat + 1) 0 (by omega) (by omega) hl (fun j hj => by omega)
def isF (h : HP) (r : Nat → Int) (l x : Int) : Prop := (x = -1 ∧ ∀ k : Nat, (k : Int) < h 6 3 → ¬ mt h r l k) ∨ ∃ k : Nat, (k : Int) < h 6 3 ∧ x = k ∧ mt h r l k
set_option maxRecDepth 100000 in
set_option maxHeartbeats 4000000 in
theorem l_Names_find (h : HP) (kr nr : Nat) (a l : Int) (hkr : ∀ f, lenP 0 (rdAt SH0 kr) f = f nr) (hl : 0 ≤ l) (ha : 0 ≤ a ∧ a + l ≤ nr ∧ nr < 10000) (hn : 0 ≤ h 6 3 ∧ h 6 3 ≤ 90) (hln : ∀ k : Nat, (k : Int) < h 6 3 → h 8 k ≤ 12) : ∀ (d : Nat) (i : Int), h 6 3 - i < d → 0 ≤ i → i ≤ h 6 3 → (∀ k : Nat, (k : Int) < i → ¬ mt h (fun j => h kr (a.toNat + j)) l k) → Wn Z4 mNames_find SH0 3 [some (.inr (.inr 6)), some (.inr (.inr (kr))), some (.inl a), some (.inl l), some (.inl i)] [] h (rtI (fun x h' => h' = h ∧ isF h (fun j => h kr (a.toNat + j)) l x)) := by
  intro d
  induction d with
  | zero => intro i h1 h2 h3; omega
  | succ d ih =>
    intro i h1 h2 h3 h4
    refine go [3] 400 (k := ?_)
    simp (config := {maxSteps := 1000000}) only [↓pI_c, ↓pR_c, ↓pJ_c, ↓pV_c, ↓popN_0, ↓popN_s, ↓lI_0, ↓lR_0, ↓lJ_0, ↓lI_s, ↓lR_s, ↓lJ_s, ↓okSt_0, ↓okSt_I, ↓okSt_R, ↓okSt_N, ↓okSt_s, ↓rtI_s, ↓rtV_n, ↓brP_t, ↓brP_f, ↓sNames_find_0, ↓sNames_find_1, ↓sNames_find_3, ↓sNames_find_5, ↓sNames_find_6, ↓rf_6_3, ↓sNames_find_9, ↓sNames_find_12, ↓sNames_find_13, ↓rf_6_1, ↓sNames_find_16, ↓sNames_find_18, ↓sNames_find_19, ↓sNames_find_20, ↓sNames_find_23, ↓sNames_find_24, ↓rf_6_0, ↓sNames_find_27, ↓sNames_find_29, ↓sNames_find_31, ↓sNames_find_32, ↓sNames_find_33, ↓sNames_find_34, ↓sNames_find_35, ↓sNames_find_38, ↓sNames_find_41, ↓sNames_find_43, ↓sNames_find_44, ↓sNames_find_47, ↓sNames_find_50, ↓sNames_find_51, ↓ln_7, ↓ln_8, List.set_cons_zero, List.set_cons_succ, List.length_cons, List.length_nil, List.contains_cons, List.contains_nil, cat1, brP_d, true_and, and_true, not_false_eq_true, not_true_eq_false, if_true, if_false, Bool.or_false, Bool.false_or, Bool.or_true, Bool.true_or, Bool.false_eq_true, Bool.or_self, false_implies, true_implies, forall_const, and_self, implies_true, true_or, or_true, or_false, false_or, or_self, Classical.not_not, Int.reduceAdd, Int.reduceSub, Int.reduceMul, Int.reduceNeg, Int.reduceToNat, Int.reduceLT, Int.reduceLE, Int.reduceEq, Int.reduceNe, Int.reduceNatCast', Nat.reduceAdd, Nat.reduceSub, Nat.reduceLeDiff, Nat.reduceLT, Nat.reduceEqDiff, Nat.reduceBEq, reduceIte, nx_w, nx_c, up_n, up_s, up_f, ne_eq, Nat.reduceEqDiff, Option.some.injEq, Prod.mk.injEq, exists_eq_left', reduceCtorEq, ar_8, ar_7]
    constructor
    · intro h5
      exact Or.inl ⟨rfl, fun k hk => h4 k (by omega)⟩
    · intro h5
      refine ⟨by omega, ?_⟩
      have h12 := hln i.toNat (by omega)
      have nxt : ¬ mt h (fun j => h kr (a.toNat + j)) l i.toNat → Wn Z4 mNames_find SH0 3 [some (.inr (.inr 6)), some (.inr (.inr (kr))), some (.inl a), some (.inl l), some (.inl (wr (i + 1)))] [] h (rtI (fun x h' => h' = h ∧ isF h (fun j => h kr (a.toNat + j)) l x)) := by
        intro hm
        rw [wr_id (x := i + 1) (by omega) (by omega)]
        refine ih (i + 1) (by omega) (by omega) (by omega) (fun k hk => ?_)
        by_cases e : (k : Int) = i
        · rw [show k = i.toNat by omega]; exact hm
        · exact h4 k (by omega)
      constructor
      · intro h6
        exact nxt (fun hm => h6 hm.1)
      · intro h6
        rw [wr_id (x := i * 12) (by omega) (by omega)]
        refine use_q (t_sameLetters h 7 kr 1080 nr (i * 12) a l (fun f => ln_7.2) hkr hl (by omega) ha) ?_
        rintro r (⟨rfl, hs⟩ | ⟨rfl, hs⟩)
        · simp only [show ¬ (1 : Int) = 0 by decide, false_implies, not_false_eq_true, true_implies, true_and]
          refine Or.inr ⟨i.toNat, by omega, by omega, h6, fun j hj => ?_⟩
          show h 7 (12 * i.toNat + j) = h kr (a.toNat + j)
          rw [← hs j hj]
          congr 1
          omega
        · simp only [true_implies, not_true_eq_false, false_implies, and_true]
          refine nxt (fun hm => hs (fun j hj => ?_))
          rw [show h kr (a.toNat + j) = h 7 (12 * i.toNat + j) from (hm.2 j hj).symm]
          congr 1
          omega
set_option maxRecDepth 100000 in
set_option maxHeartbeats 4000000 in
theorem t_Names_find (h : HP) (kr nr : Nat) (a l : Int) (hkr : ∀ f, lenP 0 (rdAt SH0 kr) f = f nr) (hl : 0 ≤ l) (ha : 0 ≤ a ∧ a + l ≤ nr ∧ nr < 10000) (hn : 0 ≤ h 6 3 ∧ h 6 3 ≤ 90) (hln : ∀ k : Nat, (k : Int) < h 6 3 → h 8 k ≤ 12) : trI mNames_find [.inr (.inr 6), .inr (.inr (kr)), .inl a, .inl l] SH0 h (fun x h' => h' = h ∧ isF h (fun j => h kr (a.toNat + j)) l x) := by
  refine startI [some (.inr (.inr 6)), some (.inr (.inr (kr))), some (.inl a), some (.inl l), none] mNames_find_c (go [3] 400 (k := ?_))
  simp (config := {maxSteps := 1000000}) only [↓pI_c, ↓pR_c, ↓pJ_c, ↓pV_c, ↓popN_0, ↓popN_s, ↓lI_0, ↓lR_0, ↓lJ_0, ↓lI_s, ↓lR_s, ↓lJ_s, ↓okSt_0, ↓okSt_I, ↓okSt_R, ↓okSt_N, ↓okSt_s, ↓rtI_s, ↓rtV_n, ↓brP_t, ↓brP_f, ↓sNames_find_0, ↓sNames_find_1, ↓sNames_find_3, ↓sNames_find_5, ↓sNames_find_6, ↓rf_6_3, ↓sNames_find_9, ↓sNames_find_12, ↓sNames_find_13, ↓rf_6_1, ↓sNames_find_16, ↓sNames_find_18, ↓sNames_find_19, ↓sNames_find_20, ↓sNames_find_23, ↓sNames_find_24, ↓rf_6_0, ↓sNames_find_27, ↓sNames_find_29, ↓sNames_find_31, ↓sNames_find_32, ↓sNames_find_33, ↓sNames_find_34, ↓sNames_find_35, ↓sNames_find_38, ↓sNames_find_41, ↓sNames_find_43, ↓sNames_find_44, ↓sNames_find_47, ↓sNames_find_50, ↓sNames_find_51, ↓ln_7, ↓ln_8, List.set_cons_zero, List.set_cons_succ, List.length_cons, List.length_nil, List.contains_cons, List.contains_nil, cat1, brP_d, true_and, and_true, not_false_eq_true, not_true_eq_false, if_true, if_false, Bool.or_false, Bool.false_or, Bool.or_true, Bool.true_or, Bool.false_eq_true, Bool.or_self, false_implies, true_implies, forall_const, and_self, implies_true, true_or, or_true, or_false, false_or, or_self, Classical.not_not, Int.reduceAdd, Int.reduceSub, Int.reduceMul, Int.reduceNeg, Int.reduceToNat, Int.reduceLT, Int.reduceLE, Int.reduceEq, Int.reduceNe, Int.reduceNatCast', Nat.reduceAdd, Nat.reduceSub, Nat.reduceLeDiff, Nat.reduceLT, Nat.reduceEqDiff, Nat.reduceBEq, reduceIte, nx_w, nx_c, up_n, up_s, up_f, ne_eq, Nat.reduceEqDiff, Option.some.injEq, Prod.mk.injEq, exists_eq_left', reduceCtorEq, ar_8, ar_7]
  exact l_Names_find h kr nr a l hkr hl ha hn hln ((h 6 3).toNat + 1) 0 (by omega) (by omega) hn.1 (fun k hk => by omega)
def addNm (h : HP) (kr : Nat) (a l o : Int) : HP := up (up (up (cpy h kr 7 a.toNat (h 6 3 * 12).toNat l.toNat) 8 (h 6 3).toNat l) 9 (h 6 3).toNat o) 6 3 (h 6 3 + 1)
set_option maxRecDepth 100000 in
set_option maxHeartbeats 4000000 in
theorem t_Names_add (h : HP) (kr nr : Nat) (a l o : Int) (hkr : arrAt SH0 kr = some (0, nr)) (hl : 0 ≤ l ∧ l ≤ 12) (ha : 0 ≤ a ∧ a + l ≤ nr ∧ nr < 10000) (hn : 0 ≤ h 6 3 ∧ h 6 3 < 90) : trI mNames_add [.inr (.inr 6), .inr (.inr (kr)), .inl a, .inl l, .inl o] SH0 h (fun x h' => h' = addNm h kr a l o ∧ x = h 6 3) := by
  have e0 : ∀ b, cpy h kr 7 a.toNat (h 6 3 * 12).toNat l.toNat 6 b = h 6 b := fun b => by rw [cpy_ne (by decide)]
  refine startI [some (.inr (.inr 6)), some (.inr (.inr (kr))), some (.inl a), some (.inl l), some (.inl o), none] mNames_add_c (go [9999] 400 (k := ?_))
  simp (config := {maxSteps := 1000000}) only [↓pI_c, ↓pR_c, ↓pJ_c, ↓pV_c, ↓popN_0, ↓popN_s, ↓lI_0, ↓lR_0, ↓lJ_0, ↓lI_s, ↓lR_s, ↓lJ_s, ↓okSt_0, ↓okSt_I, ↓okSt_R, ↓okSt_N, ↓okSt_s, ↓rtI_s, ↓rtV_n, ↓brP_t, ↓brP_f, ↓sNames_add_0, ↓sNames_add_1, ↓rf_6_3, ↓sNames_add_4, ↓sNames_add_6, ↓sNames_add_7, ↓sNames_add_8, ↓sNames_add_9, ↓rf_6_0, ↓sNames_add_12, ↓sNames_add_14, ↓sNames_add_16, ↓sNames_add_17, ↓sNames_add_18, ↓sNames_add_21, ↓sNames_add_22, ↓rf_6_1, ↓sNames_add_25, ↓sNames_add_27, ↓sNames_add_28, ↓sNames_add_29, ↓sNames_add_30, ↓rf_6_2, ↓sNames_add_33, ↓sNames_add_35, ↓sNames_add_37, ↓sNames_add_38, ↓sNames_add_39, ↓sNames_add_40, ↓sNames_add_43, ↓sNames_add_44, ↓sNames_add_45, ↓sNames_add_48, ↓sNames_add_50, ↓ln_7, ↓ln_8, ↓ln_9, List.set_cons_zero, List.set_cons_succ, List.length_cons, List.length_nil, List.contains_cons, List.contains_nil, cat1, brP_d, true_and, and_true, not_false_eq_true, not_true_eq_false, if_true, if_false, Bool.or_false, Bool.false_or, Bool.or_true, Bool.true_or, Bool.false_eq_true, Bool.or_self, false_implies, true_implies, forall_const, and_self, implies_true, true_or, or_true, or_false, false_or, or_self, Classical.not_not, Int.reduceAdd, Int.reduceSub, Int.reduceMul, Int.reduceNeg, Int.reduceToNat, Int.reduceLT, Int.reduceLE, Int.reduceEq, Int.reduceNe, Int.reduceNatCast', Nat.reduceAdd, Nat.reduceSub, Nat.reduceLeDiff, Nat.reduceLT, Nat.reduceEqDiff, Nat.reduceBEq, reduceIte, nx_w, nx_c, up_n, up_s, up_f, ne_eq, Nat.reduceEqDiff, Option.some.injEq, Prod.mk.injEq, exists_eq_left', reduceCtorEq, ar_7, hkr]
  rw [wr_id (x := h 6 3 * 12) (by omega) (by omega)]
  simp only [e0]
  rw [wr_id (x := h 6 3 + 1) (by omega) (by omega)]
  exact ⟨nr, 1080, rfl, rfl, by omega, by omega, by omega, rfl⟩

set_option maxRecDepth 100000 in
set_option maxHeartbeats 4000000 in
theorem l_Names_firstOf (h : HP) (w : Int) (hn : 0 ≤ h 6 3 ∧ h 6 3 ≤ 90) : ∀ (d : Nat) (i : Int), h 6 3 - i < d → 0 ≤ i → i ≤ h 6 3 → (∀ k : Nat, (k : Int) < i → ¬ h 9 k = w) → Wn Z4 mNames_firstOf SH0 2 [some (.inr (.inr 6)), some (.inl w), some (.inl i)] [] h (rtI (fun x h' => h' = h ∧ ((x = -1 ∧ ∀ k : Nat, (k : Int) < h 6 3 → ¬ h 9 k = w) ∨ ∃ k : Nat, (k : Int) < h 6 3 ∧ x = k ∧ h 9 k = w ∧ ∀ j : Nat, j < k → ¬ h 9 j = w))) := by
  intro d
  induction d with
  | zero => intro i h1 h2 h3; omega
  | succ d ih =>
    intro i h1 h2 h3 h4
    refine go [2] 400 (k := ?_)
    simp (config := {maxSteps := 1000000}) only [↓pI_c, ↓pR_c, ↓pJ_c, ↓pV_c, ↓popN_0, ↓popN_s, ↓lI_0, ↓lR_0, ↓lJ_0, ↓lI_s, ↓lR_s, ↓lJ_s, ↓okSt_0, ↓okSt_I, ↓okSt_R, ↓okSt_N, ↓okSt_s, ↓rtI_s, ↓rtV_n, ↓brP_t, ↓brP_f, ↓sNames_firstOf_0, ↓sNames_firstOf_1, ↓sNames_firstOf_2, ↓sNames_firstOf_3, ↓sNames_firstOf_4, ↓rf_6_3, ↓sNames_firstOf_7, ↓sNames_firstOf_10, ↓sNames_firstOf_11, ↓rf_6_2, ↓sNames_firstOf_14, ↓sNames_firstOf_15, ↓sNames_firstOf_16, ↓sNames_firstOf_17, ↓sNames_firstOf_20, ↓sNames_firstOf_21, ↓sNames_firstOf_22, ↓sNames_firstOf_25, ↓sNames_firstOf_28, ↓sNames_firstOf_29, ↓ln_9, List.set_cons_zero, List.set_cons_succ, List.length_cons, List.length_nil, List.contains_cons, List.contains_nil, cat1, brP_d, true_and, and_true, not_false_eq_true, not_true_eq_false, if_true, if_false, Bool.or_false, Bool.false_or, Bool.or_true, Bool.true_or, Bool.false_eq_true, Bool.or_self, false_implies, true_implies, forall_const, and_self, implies_true, true_or, or_true, or_false, false_or, or_self, Classical.not_not, Int.reduceAdd, Int.reduceSub, Int.reduceMul, Int.reduceNeg, Int.reduceToNat, Int.reduceLT, Int.reduceLE, Int.reduceEq, Int.reduceNe, Int.reduceNatCast', Nat.reduceAdd, Nat.reduceSub, Nat.reduceLeDiff, Nat.reduceLT, Nat.reduceEqDiff, Nat.reduceBEq, reduceIte, nx_w, nx_c, up_n, up_s, up_f, ne_eq, Nat.reduceEqDiff, Option.some.injEq, Prod.mk.injEq, exists_eq_left', reduceCtorEq]
    refine ⟨fun h5 => Or.inl (fun k hk => h4 k (by omega)), fun h5 => ⟨by omega, fun h6 => ?_, fun h6 => ?_⟩⟩
    · rw [wr_id (x := i + 1) (by omega) (by omega)]
      refine ih (i + 1) (by omega) (by omega) (by omega) (fun k hk => ?_)
      by_cases e : (k : Int) = i
      · rw [show k = i.toNat by omega]; exact h6
      · exact h4 k (by omega)
    · exact Or.inr ⟨i.toNat, by omega, by omega, h6, fun j hj => h4 j (by omega)⟩
set_option maxRecDepth 100000 in
set_option maxHeartbeats 4000000 in
theorem t_Names_firstOf (h : HP) (w : Int) (hn : 0 ≤ h 6 3 ∧ h 6 3 ≤ 90) : trI mNames_firstOf [.inr (.inr 6), .inl w] SH0 h (fun x h' => h' = h ∧ ((x = -1 ∧ ∀ k : Nat, (k : Int) < h 6 3 → ¬ h 9 k = w) ∨ ∃ k : Nat, (k : Int) < h 6 3 ∧ x = k ∧ h 9 k = w ∧ ∀ j : Nat, j < k → ¬ h 9 j = w)) := by
  refine startI [some (.inr (.inr 6)), some (.inl w), none] mNames_firstOf_c (go [2] 400 (k := ?_))
  simp (config := {maxSteps := 1000000}) only [↓pI_c, ↓pR_c, ↓pJ_c, ↓pV_c, ↓popN_0, ↓popN_s, ↓lI_0, ↓lR_0, ↓lJ_0, ↓lI_s, ↓lR_s, ↓lJ_s, ↓okSt_0, ↓okSt_I, ↓okSt_R, ↓okSt_N, ↓okSt_s, ↓rtI_s, ↓rtV_n, ↓brP_t, ↓brP_f, ↓sNames_firstOf_0, ↓sNames_firstOf_1, ↓sNames_firstOf_2, ↓sNames_firstOf_3, ↓sNames_firstOf_4, ↓rf_6_3, ↓sNames_firstOf_7, ↓sNames_firstOf_10, ↓sNames_firstOf_11, ↓rf_6_2, ↓sNames_firstOf_14, ↓sNames_firstOf_15, ↓sNames_firstOf_16, ↓sNames_firstOf_17, ↓sNames_firstOf_20, ↓sNames_firstOf_21, ↓sNames_firstOf_22, ↓sNames_firstOf_25, ↓sNames_firstOf_28, ↓sNames_firstOf_29, ↓ln_9, List.set_cons_zero, List.set_cons_succ, List.length_cons, List.length_nil, List.contains_cons, List.contains_nil, cat1, brP_d, true_and, and_true, not_false_eq_true, not_true_eq_false, if_true, if_false, Bool.or_false, Bool.false_or, Bool.or_true, Bool.true_or, Bool.false_eq_true, Bool.or_self, false_implies, true_implies, forall_const, and_self, implies_true, true_or, or_true, or_false, false_or, or_self, Classical.not_not, Int.reduceAdd, Int.reduceSub, Int.reduceMul, Int.reduceNeg, Int.reduceToNat, Int.reduceLT, Int.reduceLE, Int.reduceEq, Int.reduceNe, Int.reduceNatCast', Nat.reduceAdd, Nat.reduceSub, Nat.reduceLeDiff, Nat.reduceLT, Nat.reduceEqDiff, Nat.reduceBEq, reduceIte, nx_w, nx_c, up_n, up_s, up_f, ne_eq, Nat.reduceEqDiff, Option.some.injEq, Prod.mk.injEq, exists_eq_left', reduceCtorEq]
  exact l_Names_firstOf h w hn ((h 6 3).toNat + 1) 0 (by omega) (by omega) hn.1 (fun k hk => by omega)
/-- how many of f 0 .. f (n - 1) are w -/
def cntE (f : Nat → Int) (w : Int) : Nat → Int
  | 0 => 0
  | n + 1 => cntE f w n + (if f n = w then 1 else 0)
theorem cntE_le (f : Nat → Int) (w : Int) : ∀ n : Nat, 0 ≤ cntE f w n ∧ cntE f w n ≤ n
  | 0 => by simp [cntE]
  | n + 1 => by
    have := cntE_le f w n
    simp only [cntE]
    split <;> omega
set_option maxRecDepth 100000 in
set_option maxHeartbeats 4000000 in
theorem l_Names_countOf (h : HP) (w : Int) (hn : 0 ≤ h 6 3 ∧ h 6 3 ≤ 90) : ∀ (d : Nat) (i c : Int), h 6 3 - i < d → 0 ≤ i → i ≤ h 6 3 → c = cntE (h 9) w i.toNat → Wn Z4 mNames_countOf SH0 4 [some (.inr (.inr 6)), some (.inl w), some (.inl c), some (.inl i)] [] h (rtI (fun x h' => h' = h ∧ x = cntE (h 9) w (h 6 3).toNat)) := by
  intro d
  induction d with
  | zero => intro i c h1 h2 h3; omega
  | succ d ih =>
    intro i c h1 h2 h3 h4
    have hc := cntE_le (h 9) w i.toNat
    have hs : ¬ h 6 3 ≤ i → cntE (h 9) w (i + 1).toNat = cntE (h 9) w i.toNat + (if h 9 i.toNat = w then 1 else 0) := by
      intro _
      rw [show (i + 1).toNat = i.toNat + 1 by omega]
      rfl
    refine go [4] 400 (k := ?_)
    simp (config := {maxSteps := 1000000}) only [↓pI_c, ↓pR_c, ↓pJ_c, ↓pV_c, ↓popN_0, ↓popN_s, ↓lI_0, ↓lR_0, ↓lJ_0, ↓lI_s, ↓lR_s, ↓lJ_s, ↓okSt_0, ↓okSt_I, ↓okSt_R, ↓okSt_N, ↓okSt_s, ↓rtI_s, ↓rtV_n, ↓brP_t, ↓brP_f, ↓sNames_countOf_0, ↓sNames_countOf_1, ↓sNames_countOf_2, ↓sNames_countOf_3, ↓sNames_countOf_4, ↓sNames_countOf_5, ↓sNames_countOf_6, ↓rf_6_3, ↓sNames_countOf_9, ↓sNames_countOf_12, ↓sNames_countOf_13, ↓rf_6_2, ↓sNames_countOf_16, ↓sNames_countOf_17, ↓sNames_countOf_18, ↓sNames_countOf_19, ↓sNames_countOf_22, ↓sNames_countOf_25, ↓sNames_countOf_28, ↓sNames_countOf_31, ↓sNames_countOf_32, ↓ln_9, List.set_cons_zero, List.set_cons_succ, List.length_cons, List.length_nil, List.contains_cons, List.contains_nil, cat1, brP_d, true_and, and_true, not_false_eq_true, not_true_eq_false, if_true, if_false, Bool.or_false, Bool.false_or, Bool.or_true, Bool.true_or, Bool.false_eq_true, Bool.or_self, false_implies, true_implies, forall_const, and_self, implies_true, true_or, or_true, or_false, false_or, or_self, Classical.not_not, Int.reduceAdd, Int.reduceSub, Int.reduceMul, Int.reduceNeg, Int.reduceToNat, Int.reduceLT, Int.reduceLE, Int.reduceEq, Int.reduceNe, Int.reduceNatCast', Nat.reduceAdd, Nat.reduceSub, Nat.reduceLeDiff, Nat.reduceLT, Nat.reduceEqDiff, Nat.reduceBEq, reduceIte, nx_w, nx_c, up_n, up_s, up_f, ne_eq, Nat.reduceEqDiff, Option.some.injEq, Prod.mk.injEq, exists_eq_left', reduceCtorEq]
    refine ⟨fun h5 => ?_, fun h5 => ⟨by omega, fun h6 => ?_, fun h6 => ?_⟩⟩
    · rw [h4, show i = h 6 3 by omega]
    · rw [wr_id (x := i + 1) (by omega) (by omega)]
      refine ih (i + 1) c (by omega) (by omega) (by omega) ?_
      rw [hs h5, if_neg h6, h4, Int.add_zero]
    · rw [wr_id (x := i + 1) (by omega) (by omega), wr_id (x := c + 1) (by omega) (by omega)]
      refine ih (i + 1) (c + 1) (by omega) (by omega) (by omega) ?_
      rw [hs h5, if_pos h6, h4]
set_option maxRecDepth 100000 in
set_option maxHeartbeats 4000000 in
theorem t_Names_countOf (h : HP) (w : Int) (hn : 0 ≤ h 6 3 ∧ h 6 3 ≤ 90) : trI mNames_countOf [.inr (.inr 6), .inl w] SH0 h (fun x h' => h' = h ∧ x = cntE (h 9) w (h 6 3).toNat) := by
  refine startI [some (.inr (.inr 6)), some (.inl w), none, none] mNames_countOf_c (go [4] 400 (k := ?_))
  simp (config := {maxSteps := 1000000}) only [↓pI_c, ↓pR_c, ↓pJ_c, ↓pV_c, ↓popN_0, ↓popN_s, ↓lI_0, ↓lR_0, ↓lJ_0, ↓lI_s, ↓lR_s, ↓lJ_s, ↓okSt_0, ↓okSt_I, ↓okSt_R, ↓okSt_N, ↓okSt_s, ↓rtI_s, ↓rtV_n, ↓brP_t, ↓brP_f, ↓sNames_countOf_0, ↓sNames_countOf_1, ↓sNames_countOf_2, ↓sNames_countOf_3, ↓sNames_countOf_4, ↓sNames_countOf_5, ↓sNames_countOf_6, ↓rf_6_3, ↓sNames_countOf_9, ↓sNames_countOf_12, ↓sNames_countOf_13, ↓rf_6_2, ↓sNames_countOf_16, ↓sNames_countOf_17, ↓sNames_countOf_18, ↓sNames_countOf_19, ↓sNames_countOf_22, ↓sNames_countOf_25, ↓sNames_countOf_28, ↓sNames_countOf_31, ↓sNames_countOf_32, ↓ln_9, List.set_cons_zero, List.set_cons_succ, List.length_cons, List.length_nil, List.contains_cons, List.contains_nil, cat1, brP_d, true_and, and_true, not_false_eq_true, not_true_eq_false, if_true, if_false, Bool.or_false, Bool.false_or, Bool.or_true, Bool.true_or, Bool.false_eq_true, Bool.or_self, false_implies, true_implies, forall_const, and_self, implies_true, true_or, or_true, or_false, false_or, or_self, Classical.not_not, Int.reduceAdd, Int.reduceSub, Int.reduceMul, Int.reduceNeg, Int.reduceToNat, Int.reduceLT, Int.reduceLE, Int.reduceEq, Int.reduceNe, Int.reduceNatCast', Nat.reduceAdd, Nat.reduceSub, Nat.reduceLeDiff, Nat.reduceLT, Nat.reduceEqDiff, Nat.reduceBEq, reduceIte, nx_w, nx_c, up_n, up_s, up_f, ne_eq, Nat.reduceEqDiff, Option.some.injEq, Prod.mk.injEq, exists_eq_left', reduceCtorEq]
  exact l_Names_countOf h w hn ((h 6 3).toNat + 1) 0 0 (by omega) (by omega) hn.1 rfl
-- the reference
def mtM (h : HP) (r : Nat → Int) (l : Int) (k : Nat) : Prop := h 49 k = l ∧ ∀ i : Nat, (i : Int) < l → h 48 (12 * k + i) = r i
def fndM (h : HP) (r : Nat → Int) (l : Int) (n x : Int) : Prop := (x = -1 ∧ ∀ k : Nat, (k : Int) < n → ¬ mtM h r l k) ∨ ∃ k : Nat, (k : Int) < n ∧ x = h 50 k ∧ mtM h r l k
set_option maxRecDepth 100000 in
set_option maxHeartbeats 4000000 in
theorem i_Model_named (h : HP) (kr nr : Nat) (a l f k : Int) (hkr : ∀ f, lenP 0 (rdAt SH0 kr) f = f nr) (ha : 0 ≤ a ∧ a + l ≤ nr ∧ nr < 10000) (hk : 0 ≤ k ∧ k < 90) (hl : 0 ≤ l) (hl12 : h 49 k.toNat ≤ 12) (P : Option AV → HP → Prop)
    (hX : ∀ f' x6 x7, (mtM h (fun j => sm (h kr (a.toNat + j))) l k.toNat ∧ f' = h 50 k.toNat) ∨ (¬ mtM h (fun j => sm (h kr (a.toNat + j))) l k.toNat ∧ f' = f) → Wn Z4 mModel_named SH0 6 [some (.inr (.inr 43)), some (.inr (.inr (kr))), some (.inl a), some (.inl l), some (.inl f'), some (.inl (k + 1)), x6, x7] [] h P) : ∀ (d : Nat) (i s : Int), l - i < d → 0 ≤ i → i ≤ l → (s = 1 ∧ h 49 k.toNat = l ∧ ∀ j : Nat, (j : Int) < i → h 48 (12 * k.toNat + j) = sm (h kr (a.toNat + j))) ∨ (s = 0 ∧ ¬ mtM h (fun j => sm (h kr (a.toNat + j))) l k.toNat) → Wn Z4 mModel_named SH0 36 [some (.inr (.inr 43)), some (.inr (.inr (kr))), some (.inl a), some (.inl l), some (.inl f), some (.inl k), some (.inl s), some (.inl i)] [] h P := by
  intro d
  induction d with
  | zero => intro i s h1 h2 h3; omega
  | succ d ih =>
    intro i s h1 h2 h3 h4
    refine go [36,6] 400 (k := ?_)
    simp (config := {maxSteps := 1000000}) only [↓pI_c, ↓pR_c, ↓pJ_c, ↓pV_c, ↓popN_0, ↓popN_s, ↓lI_0, ↓lR_0, ↓lJ_0, ↓lI_s, ↓lR_s, ↓lJ_s, ↓okSt_0, ↓okSt_I, ↓okSt_R, ↓okSt_N, ↓okSt_s, ↓rtI_s, ↓rtV_n, ↓brP_t, ↓brP_f, ↓sModel_named_0, ↓sModel_named_1, ↓sModel_named_3, ↓sModel_named_4, ↓sModel_named_6, ↓sModel_named_8, ↓sModel_named_9, ↓rf_43_6, ↓sModel_named_12, ↓sModel_named_15, ↓sModel_named_16, ↓rf_43_8, ↓sModel_named_19, ↓sModel_named_21, ↓sModel_named_22, ↓sModel_named_23, ↓sModel_named_26, ↓sModel_named_27, ↓sModel_named_30, ↓sModel_named_31, ↓sModel_named_33, ↓sModel_named_34, ↓sModel_named_36, ↓sModel_named_38, ↓sModel_named_39, ↓sModel_named_42, ↓sModel_named_44, ↓sModel_named_47, ↓sModel_named_48, ↓rf_43_7, ↓sModel_named_51, ↓sModel_named_53, ↓sModel_named_55, ↓sModel_named_56, ↓sModel_named_58, ↓sModel_named_59, ↓sModel_named_60, ↓sModel_named_61, ↓sModel_named_62, ↓sModel_named_64, ↓sModel_named_65, ↓sModel_named_66, ↓sModel_named_69, ↓sModel_named_72, ↓sModel_named_73, ↓sModel_named_76, ↓sModel_named_77, ↓sModel_named_79, ↓sModel_named_82, ↓sModel_named_85, ↓sModel_named_87, ↓sModel_named_90, ↓sModel_named_91, ↓rf_43_9, ↓sModel_named_94, ↓sModel_named_96, ↓sModel_named_97, ↓sModel_named_100, ↓sModel_named_102, ↓sModel_named_104, ↓sModel_named_107, ↓sModel_named_110, ↓sModel_named_112, ↓ln_48, ↓ln_49, ↓ln_50, List.set_cons_zero, List.set_cons_succ, List.length_cons, List.length_nil, List.contains_cons, List.contains_nil, cat1, brP_d, true_and, and_true, not_false_eq_true, not_true_eq_false, if_true, if_false, Bool.or_false, Bool.false_or, Bool.or_true, Bool.true_or, Bool.false_eq_true, Bool.or_self, false_implies, true_implies, forall_const, and_self, implies_true, true_or, or_true, or_false, false_or, or_self, Classical.not_not, Int.reduceAdd, Int.reduceSub, Int.reduceMul, Int.reduceNeg, Int.reduceToNat, Int.reduceLT, Int.reduceLE, Int.reduceEq, Int.reduceNe, Int.reduceNatCast', Nat.reduceAdd, Nat.reduceSub, Nat.reduceLeDiff, Nat.reduceLT, Nat.reduceEqDiff, Nat.reduceBEq, reduceIte, nx_w, nx_c, up_n, up_s, up_f, ne_eq, Nat.reduceEqDiff, Option.some.injEq, Prod.mk.injEq, exists_eq_left', reduceCtorEq, ar_48, ar_49, ↓hkr]
    rw [wr_id (x := k + 1) (by omega) (by omega)]
    constructor
    · intro h5
      rcases h4 with ⟨rfl, h6, h7⟩ | ⟨rfl, h6⟩
      · simp only [show ¬ (1 : Int) = 0 by decide, false_implies, not_false_eq_true, true_implies, true_and]
        exact ⟨by omega, hX _ _ _ (Or.inl ⟨⟨h6, fun j hj => h7 j (by omega)⟩, rfl⟩)⟩
      · simp only [true_implies, not_true_eq_false, false_implies, and_true]
        exact hX _ _ _ (Or.inr ⟨h6, rfl⟩)
    · intro h5
      rcases h4 with ⟨rfl, h6, h7⟩ | ⟨rfl, h6⟩
      · simp only [show ¬ (1 : Int) = 0 by decide, false_implies, not_false_eq_true, true_implies, true_and]
        rw [wr_id (x := 12 * k) (by omega) (by omega), wr_id (x := 12 * k + i) (by omega) (by omega), wr_id (x := a + i) (by omega) (by omega), wr_id (x := i + 1) (by omega) (by omega)]
        refine ⟨by omega, by omega, ?_⟩
        refine use_p (t_Model_small h _) ?_
        have e1 : (12 * k + i).toNat = 12 * k.toNat + i.toNat := by omega
        have e2 : (a + i).toNat = a.toNat + i.toNat := by omega
        rw [e1, e2]
        refine ⟨fun h8 => ih (i + 1) 0 (by omega) (by omega) (by omega) (Or.inr ⟨rfl, fun hm => h8 (hm.2 i.toNat (by omega))⟩), fun h8 => ih (i + 1) 1 (by omega) (by omega) (by omega) (Or.inl ⟨rfl, h6, fun j hj => ?_⟩)⟩
        by_cases e : (j : Int) = i
        · rw [show j = i.toNat by omega]; exact h8
        · exact h7 j (by omega)
      · simp only [true_implies, not_true_eq_false, false_implies, and_true]
        exact hX _ _ _ (Or.inr ⟨h6, rfl⟩)
set_option maxRecDepth 100000 in
set_option maxHeartbeats 4000000 in
theorem l_Model_named (h : HP) (kr nr : Nat) (a l : Int) (hkr : ∀ f, lenP 0 (rdAt SH0 kr) f = f nr) (hl : 0 ≤ l) (ha : 0 ≤ a ∧ a + l ≤ nr ∧ nr < 10000) (hn : 0 ≤ h 43 6 ∧ h 43 6 ≤ 90) (hln : ∀ k : Nat, (k : Int) < h 43 6 → h 49 k ≤ 12) : ∀ (d : Nat) (k f : Int) (x6 x7 : Option AV), h 43 6 - k < d → 0 ≤ k → k ≤ h 43 6 → fndM h (fun j => sm (h kr (a.toNat + j))) l k f → Wn Z4 mModel_named SH0 6 [some (.inr (.inr 43)), some (.inr (.inr (kr))), some (.inl a), some (.inl l), some (.inl f), some (.inl k), x6, x7] [] h (rtI (fun x h' => h' = h ∧ fndM h (fun j => sm (h kr (a.toNat + j))) l (h 43 6) x)) := by
  intro d
  induction d with
  | zero => intro k f x6 x7 h1 h2 h3; omega
  | succ d ih =>
    intro k f x6 x7 h1 h2 h3 h4
    refine go [36] 400 (k := ?_)
    simp (config := {maxSteps := 1000000}) only [↓pI_c, ↓pR_c, ↓pJ_c, ↓pV_c, ↓popN_0, ↓popN_s, ↓lI_0, ↓lR_0, ↓lJ_0, ↓lI_s, ↓lR_s, ↓lJ_s, ↓okSt_0, ↓okSt_I, ↓okSt_R, ↓okSt_N, ↓okSt_s, ↓rtI_s, ↓rtV_n, ↓brP_t, ↓brP_f, ↓sModel_named_0, ↓sModel_named_1, ↓sModel_named_3, ↓sModel_named_4, ↓sModel_named_6, ↓sModel_named_8, ↓sModel_named_9, ↓rf_43_6, ↓sModel_named_12, ↓sModel_named_15, ↓sModel_named_16, ↓rf_43_8, ↓sModel_named_19, ↓sModel_named_21, ↓sModel_named_22, ↓sModel_named_23, ↓sModel_named_26, ↓sModel_named_27, ↓sModel_named_30, ↓sModel_named_31, ↓sModel_named_33, ↓sModel_named_34, ↓sModel_named_36, ↓sModel_named_38, ↓sModel_named_39, ↓sModel_named_42, ↓sModel_named_44, ↓sModel_named_47, ↓sModel_named_48, ↓rf_43_7, ↓sModel_named_51, ↓sModel_named_53, ↓sModel_named_55, ↓sModel_named_56, ↓sModel_named_58, ↓sModel_named_59, ↓sModel_named_60, ↓sModel_named_61, ↓sModel_named_62, ↓sModel_named_64, ↓sModel_named_65, ↓sModel_named_66, ↓sModel_named_69, ↓sModel_named_72, ↓sModel_named_73, ↓sModel_named_76, ↓sModel_named_77, ↓sModel_named_79, ↓sModel_named_82, ↓sModel_named_85, ↓sModel_named_87, ↓sModel_named_90, ↓sModel_named_91, ↓rf_43_9, ↓sModel_named_94, ↓sModel_named_96, ↓sModel_named_97, ↓sModel_named_100, ↓sModel_named_102, ↓sModel_named_104, ↓sModel_named_107, ↓sModel_named_110, ↓sModel_named_112, ↓ln_48, ↓ln_49, ↓ln_50, List.set_cons_zero, List.set_cons_succ, List.length_cons, List.length_nil, List.contains_cons, List.contains_nil, cat1, brP_d, true_and, and_true, not_false_eq_true, not_true_eq_false, if_true, if_false, Bool.or_false, Bool.false_or, Bool.or_true, Bool.true_or, Bool.false_eq_true, Bool.or_self, false_implies, true_implies, forall_const, and_self, implies_true, true_or, or_true, or_false, false_or, or_self, Classical.not_not, Int.reduceAdd, Int.reduceSub, Int.reduceMul, Int.reduceNeg, Int.reduceToNat, Int.reduceLT, Int.reduceLE, Int.reduceEq, Int.reduceNe, Int.reduceNatCast', Nat.reduceAdd, Nat.reduceSub, Nat.reduceLeDiff, Nat.reduceLT, Nat.reduceEqDiff, Nat.reduceBEq, reduceIte, nx_w, nx_c, up_n, up_s, up_f, ne_eq, Nat.reduceEqDiff, Option.some.injEq, Prod.mk.injEq, exists_eq_left', reduceCtorEq, ar_48, ar_49]
    constructor
    · intro h5
      rw [show h 43 6 = k by omega]
      exact h4
    · intro h5
      refine ⟨by omega, ?_⟩
      have hX : ∀ f' x6 x7, (mtM h (fun j => sm (h kr (a.toNat + j))) l k.toNat ∧ f' = h 50 k.toNat) ∨ (¬ mtM h (fun j => sm (h kr (a.toNat + j))) l k.toNat ∧ f' = f) → Wn Z4 mModel_named SH0 6 [some (.inr (.inr 43)), some (.inr (.inr (kr))), some (.inl a), some (.inl l), some (.inl f'), some (.inl (k + 1)), x6, x7] [] h (rtI (fun x h' => h' = h ∧ fndM h (fun j => sm (h kr (a.toNat + j))) l (h 43 6) x)) := by
        intro f' x6 x7 hf
        refine ih (k + 1) f' x6 x7 (by omega) (by omega) (by omega) ?_
        rcases hf with ⟨hm, rfl⟩ | ⟨hm, rfl⟩
        · exact Or.inr ⟨k.toNat, by omega, rfl, hm⟩
        · rcases h4 with ⟨e, h6⟩ | ⟨k', h6, h7, h8⟩
          · refine Or.inl ⟨e, fun k' hk' => ?_⟩
            by_cases e2 : (k' : Int) = k
            · rw [show k' = k.toNat by omega]; exact hm
            · exact h6 k' (by omega)
          · exact Or.inr ⟨k', by omega, h7, h8⟩
      have h12 := hln k.toNat (by omega)
      refine ⟨fun h6 => i_Model_named h kr nr a l f k hkr ha (by omega) hl h12 _ hX (l.toNat + 1) 0 0 (by omega) (by omega) hl (Or.inr ⟨rfl, fun hm => h6 hm.1⟩), fun h6 => i_Model_named h kr nr a l f k hkr ha (by omega) hl h12 _ hX (l.toNat + 1) 0 1 (by omega) (by omega) hl (Or.inl ⟨rfl, h6, fun j hj => by omega⟩)⟩
set_option maxRecDepth 100000 in
set_option maxHeartbeats 4000000 in
theorem t_Model_named (h : HP) (kr nr : Nat) (a l : Int) (hkr : ∀ f, lenP 0 (rdAt SH0 kr) f = f nr) (hl : 0 ≤ l) (ha : 0 ≤ a ∧ a + l ≤ nr ∧ nr < 10000) (hn : 0 ≤ h 43 6 ∧ h 43 6 ≤ 90) (hln : ∀ k : Nat, (k : Int) < h 43 6 → h 49 k ≤ 12) : trI mModel_named [.inr (.inr 43), .inr (.inr (kr)), .inl a, .inl l] SH0 h (fun x h' => h' = h ∧ fndM h (fun j => sm (h kr (a.toNat + j))) l (h 43 6) x) := by
  refine startI [some (.inr (.inr 43)), some (.inr (.inr (kr))), some (.inl a), some (.inl l), none, none, none, none] mModel_named_c (go [6] 400 (k := ?_))
  simp (config := {maxSteps := 1000000}) only [↓pI_c, ↓pR_c, ↓pJ_c, ↓pV_c, ↓popN_0, ↓popN_s, ↓lI_0, ↓lR_0, ↓lJ_0, ↓lI_s, ↓lR_s, ↓lJ_s, ↓okSt_0, ↓okSt_I, ↓okSt_R, ↓okSt_N, ↓okSt_s, ↓rtI_s, ↓rtV_n, ↓brP_t, ↓brP_f, ↓sModel_named_0, ↓sModel_named_1, ↓sModel_named_3, ↓sModel_named_4, ↓sModel_named_6, ↓sModel_named_8, ↓sModel_named_9, ↓rf_43_6, ↓sModel_named_12, ↓sModel_named_15, ↓sModel_named_16, ↓rf_43_8, ↓sModel_named_19, ↓sModel_named_21, ↓sModel_named_22, ↓sModel_named_23, ↓sModel_named_26, ↓sModel_named_27, ↓sModel_named_30, ↓sModel_named_31, ↓sModel_named_33, ↓sModel_named_34, ↓sModel_named_36, ↓sModel_named_38, ↓sModel_named_39, ↓sModel_named_42, ↓sModel_named_44, ↓sModel_named_47, ↓sModel_named_48, ↓rf_43_7, ↓sModel_named_51, ↓sModel_named_53, ↓sModel_named_55, ↓sModel_named_56, ↓sModel_named_58, ↓sModel_named_59, ↓sModel_named_60, ↓sModel_named_61, ↓sModel_named_62, ↓sModel_named_64, ↓sModel_named_65, ↓sModel_named_66, ↓sModel_named_69, ↓sModel_named_72, ↓sModel_named_73, ↓sModel_named_76, ↓sModel_named_77, ↓sModel_named_79, ↓sModel_named_82, ↓sModel_named_85, ↓sModel_named_87, ↓sModel_named_90, ↓sModel_named_91, ↓rf_43_9, ↓sModel_named_94, ↓sModel_named_96, ↓sModel_named_97, ↓sModel_named_100, ↓sModel_named_102, ↓sModel_named_104, ↓sModel_named_107, ↓sModel_named_110, ↓sModel_named_112, ↓ln_48, ↓ln_49, ↓ln_50, List.set_cons_zero, List.set_cons_succ, List.length_cons, List.length_nil, List.contains_cons, List.contains_nil, cat1, brP_d, true_and, and_true, not_false_eq_true, not_true_eq_false, if_true, if_false, Bool.or_false, Bool.false_or, Bool.or_true, Bool.true_or, Bool.false_eq_true, Bool.or_self, false_implies, true_implies, forall_const, and_self, implies_true, true_or, or_true, or_false, false_or, or_self, Classical.not_not, Int.reduceAdd, Int.reduceSub, Int.reduceMul, Int.reduceNeg, Int.reduceToNat, Int.reduceLT, Int.reduceLE, Int.reduceEq, Int.reduceNe, Int.reduceNatCast', Nat.reduceAdd, Nat.reduceSub, Nat.reduceLeDiff, Nat.reduceLT, Nat.reduceEqDiff, Nat.reduceBEq, reduceIte, nx_w, nx_c, up_n, up_s, up_f, ne_eq, Nat.reduceEqDiff, Option.some.injEq, Prod.mk.injEq, exists_eq_left', reduceCtorEq, ar_48, ar_49]
  exact l_Model_named h kr nr a l hkr hl ha hn hln ((h 43 6).toNat + 1) 0 (-1) _ _ (by omega) (by omega) hn.1 (Or.inl ⟨rfl, fun k hk => by omega⟩)
