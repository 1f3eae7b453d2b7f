/-! the reference: log, becomes -/
theorem sm_tw {g h : HP} (hL : CL0 g) (hml : CML g h) {k : Nat} (hk : (k : Int) < g 19 5) {x : Nat} (hx : (x : Int) < g 23 k) : sm (h 57 ((g 22 k).toNat + x)) = tw g k x + 97 := by
  have hr := hL.2.2.2.1.2.2.1 k hk
  have e := hL.2.2.1 ((g 22 k).toNat + x) (by omega)
  rw [hml.2.2 _ (by omega), lOf_sm (hr.2.2.2 _ (by omega) (by omega))]
  unfold tw
  rw [e.2.2]
set_option maxRecDepth 100000 in
set_option maxHeartbeats 4000000 in
theorem l_Model_isLogged (g h : HP) (hC : CI g) (hG : CLg g) (hm : CM g h) (hmg : CMg g h) (p k : Nat) (hp : (p : Int) < g 36 4) (hk : (k : Int) < g 19 5) : ∀ (d : Nat) (i s : Int), g 23 k - i < d → 0 ≤ i → i ≤ g 23 k → ((s = 1 ∧ g 38 p = g 23 k ∧ ∀ j : Nat, (j : Int) < i → g 37 (12 * p + j) = tw g k j) ∨ (s = 0 ∧ ¬ sameL (g 38) (g 37) (tw g k) (g 23 k) p)) → Wn Z4 mModel_isLogged SH0 20 [some (.inr (.inr 43)), some (.inl p), some (.inl (g 22 k)), some (.inl (g 23 k)), some (.inl s), some (.inl i)] [] h (rtI (fun x h' => h' = h ∧ bP (sameL (g 38) (g 37) (tw g k) (g 23 k) p) x)) := by
  have hL := hC.2.2.2.2
  obtain ⟨⟨t1, t2, t3⟩, t4⟩ := ty_in hL hk
  have h40 := hG.2.1
  have hpl := (hG.2.2 p hp).1
  intro d
  induction d with
  | zero => intro i s h1 h2 h3; omega
  | succ d ih =>
    intro i s h1 h2 h3 h4
    rcases h4 with ⟨rfl, z1, z2⟩ | ⟨rfl, z⟩
    · refine go [20] 400 (k := ?_)
      simp (config := {maxSteps := 1000000}) only [↓pI_c, ↓pR_c, ↓pJ_c, ↓pV_c, ↓popN_0, ↓popN_s, ↓lI_0, ↓lR_0, ↓lJ_0, ↓lI_s, ↓lR_s, ↓lJ_s, ↓okSt_0, ↓okSt_I, ↓okSt_R, ↓okSt_N, ↓okSt_s, ↓rtI_s, ↓rtV_n, ↓brP_t, ↓brP_f, ↓sModel_isLogged_0, ↓sModel_isLogged_1, ↓rf_43_41, ↓sModel_isLogged_4, ↓sModel_isLogged_5, ↓sModel_isLogged_6, ↓sModel_isLogged_7, ↓sModel_isLogged_10, ↓sModel_isLogged_11, ↓sModel_isLogged_14, ↓sModel_isLogged_15, ↓sModel_isLogged_17, ↓sModel_isLogged_18, ↓sModel_isLogged_20, ↓sModel_isLogged_22, ↓sModel_isLogged_23, ↓sModel_isLogged_26, ↓sModel_isLogged_28, ↓sModel_isLogged_31, ↓sModel_isLogged_32, ↓rf_43_40, ↓sModel_isLogged_35, ↓sModel_isLogged_37, ↓sModel_isLogged_38, ↓sModel_isLogged_39, ↓sModel_isLogged_41, ↓sModel_isLogged_42, ↓sModel_isLogged_43, ↓sModel_isLogged_44, ↓rf_43_19, ↓sModel_isLogged_47, ↓sModel_isLogged_48, ↓sModel_isLogged_50, ↓sModel_isLogged_51, ↓sModel_isLogged_52, ↓sModel_isLogged_55, ↓sModel_isLogged_58, ↓sModel_isLogged_59, ↓sModel_isLogged_62, ↓sModel_isLogged_63, ↓sModel_isLogged_65, ↓sModel_isLogged_68, ↓sModel_isLogged_71, ↓sModel_isLogged_73, ↓ln_57, ↓ln_69, ↓ln_70, List.set_cons_zero, List.set_cons_succ, List.length_cons, List.length_nil, List.contains_cons, List.contains_nil, cat1, brP_d, true_and, and_true, not_false_eq_true, not_true_eq_false, if_true, if_false, Bool.or_false, Bool.false_or, Bool.or_true, Bool.true_or, Bool.false_eq_true, Bool.or_self, false_implies, true_implies, forall_const, and_self, implies_true, true_or, or_true, or_false, false_or, or_self, Classical.not_not, Int.reduceAdd, Int.reduceSub, Int.reduceMul, Int.reduceNeg, Int.reduceToNat, Int.reduceLT, Int.reduceLE, Int.reduceEq, Int.reduceNe, Int.reduceNatCast', Nat.reduceAdd, Nat.reduceSub, Nat.reduceLeDiff, Nat.reduceLT, Nat.reduceEqDiff, Nat.reduceBEq, reduceIte, nx_w, nx_c, up_n, up_s, up_f, ne_eq, Nat.reduceEqDiff, Option.some.injEq, Prod.mk.injEq, exists_eq_left', reduceCtorEq, ar_57, ar_69, ar_70]
      refine ⟨fun c1 => Or.inl ⟨rfl, z1, fun j hj => z2 j (by omega)⟩, fun c1 => ?_⟩
      have e69 := (hmg.2 p hp).2.2.2 i.toNat (by omega)
      have esm := sm_tw hL hm.2.2.2.2 hk (x := i.toNat) (by omega)
      rw [wr_id (x := i + 1) (by omega) (by omega), wr_id (x := 12 * (p : Int)) (by omega) (by omega), wr_id (x := 12 * (p : Int) + i) (by omega) (by omega), wr_id (x := g 22 k + i) (by omega) (by omega), show (12 * (p : Int) + i).toNat = 12 * p + i.toNat by omega, show (g 22 k + i).toNat = (g 22 k).toNat + i.toNat by omega, e69]
      refine ⟨by omega, by omega, ?_⟩
      refine use_p (t_Model_small h _) ?_
      rw [esm]
      refine ⟨fun c2 => ih (i + 1) 0 (by omega) (by omega) (by omega) (Or.inr ⟨rfl, fun y => c2 (by rw [y.2 i.toNat (by omega)])⟩), fun c2 => ih (i + 1) 1 (by omega) (by omega) (by omega) (Or.inl ⟨rfl, z1, fun j hj => ?_⟩)⟩
      by_cases e : (j : Int) = i
      · rw [show j = i.toNat by omega]; omega
      · exact z2 j (by omega)
    · refine go [20] 400 (k := ?_)
      simp (config := {maxSteps := 1000000}) only [↓pI_c, ↓pR_c, ↓pJ_c, ↓pV_c, ↓popN_0, ↓popN_s, ↓lI_0, ↓lR_0, ↓lJ_0, ↓lI_s, ↓lR_s, ↓lJ_s, ↓okSt_0, ↓okSt_I, ↓okSt_R, ↓okSt_N, ↓okSt_s, ↓rtI_s, ↓rtV_n, ↓brP_t, ↓brP_f, ↓sModel_isLogged_0, ↓sModel_isLogged_1, ↓rf_43_41, ↓sModel_isLogged_4, ↓sModel_isLogged_5, ↓sModel_isLogged_6, ↓sModel_isLogged_7, ↓sModel_isLogged_10, ↓sModel_isLogged_11, ↓sModel_isLogged_14, ↓sModel_isLogged_15, ↓sModel_isLogged_17, ↓sModel_isLogged_18, ↓sModel_isLogged_20, ↓sModel_isLogged_22, ↓sModel_isLogged_23, ↓sModel_isLogged_26, ↓sModel_isLogged_28, ↓sModel_isLogged_31, ↓sModel_isLogged_32, ↓rf_43_40, ↓sModel_isLogged_35, ↓sModel_isLogged_37, ↓sModel_isLogged_38, ↓sModel_isLogged_39, ↓sModel_isLogged_41, ↓sModel_isLogged_42, ↓sModel_isLogged_43, ↓sModel_isLogged_44, ↓rf_43_19, ↓sModel_isLogged_47, ↓sModel_isLogged_48, ↓sModel_isLogged_50, ↓sModel_isLogged_51, ↓sModel_isLogged_52, ↓sModel_isLogged_55, ↓sModel_isLogged_58, ↓sModel_isLogged_59, ↓sModel_isLogged_62, ↓sModel_isLogged_63, ↓sModel_isLogged_65, ↓sModel_isLogged_68, ↓sModel_isLogged_71, ↓sModel_isLogged_73, ↓ln_57, ↓ln_69, ↓ln_70, List.set_cons_zero, List.set_cons_succ, List.length_cons, List.length_nil, List.contains_cons, List.contains_nil, cat1, brP_d, true_and, and_true, not_false_eq_true, not_true_eq_false, if_true, if_false, Bool.or_false, Bool.false_or, Bool.or_true, Bool.true_or, Bool.false_eq_true, Bool.or_self, false_implies, true_implies, forall_const, and_self, implies_true, true_or, or_true, or_false, false_or, or_self, Classical.not_not, Int.reduceAdd, Int.reduceSub, Int.reduceMul, Int.reduceNeg, Int.reduceToNat, Int.reduceLT, Int.reduceLE, Int.reduceEq, Int.reduceNe, Int.reduceNatCast', Nat.reduceAdd, Nat.reduceSub, Nat.reduceLeDiff, Nat.reduceLT, Nat.reduceEqDiff, Nat.reduceBEq, reduceIte, nx_w, nx_c, up_n, up_s, up_f, ne_eq, Nat.reduceEqDiff, Option.some.injEq, Prod.mk.injEq, exists_eq_left', reduceCtorEq, ar_57, ar_69, ar_70]
      exact ⟨fun _ => Or.inr ⟨rfl, z⟩, fun _ => Or.inr ⟨rfl, z⟩⟩
set_option maxRecDepth 100000 in
set_option maxHeartbeats 4000000 in
theorem t_Model_isLogged (g h : HP) (hC : CI g) (hG : CLg g) (hm : CM g h) (hmg : CMg g h) (p k : Nat) (hp : (p : Int) < g 36 4) (hk : (k : Int) < g 19 5) : trI mModel_isLogged [.inr (.inr 43), .inl p, .inl (g 22 k), .inl (g 23 k)] SH0 h (fun x h' => h' = h ∧ bP (sameL (g 38) (g 37) (tw g k) (g 23 k) p) x) := by
  have hL := hC.2.2.2.2
  obtain ⟨⟨t1, t2, t3⟩, t4⟩ := ty_in hL hk
  have h40 := hG.2.1
  have e70 := (hmg.2 p hp).1
  have ep : ((p : Int)).toNat = p := by omega
  refine startI [some (.inr (.inr 43)), some (.inl p), some (.inl (g 22 k)), some (.inl (g 23 k)), none, none] mModel_isLogged_c (go [20] 400 (k := ?_))
  simp (config := {maxSteps := 1000000}) only [↓pI_c, ↓pR_c, ↓pJ_c, ↓pV_c, ↓popN_0, ↓popN_s, ↓lI_0, ↓lR_0, ↓lJ_0, ↓lI_s, ↓lR_s, ↓lJ_s, ↓okSt_0, ↓okSt_I, ↓okSt_R, ↓okSt_N, ↓okSt_s, ↓rtI_s, ↓rtV_n, ↓brP_t, ↓brP_f, ↓sModel_isLogged_0, ↓sModel_isLogged_1, ↓rf_43_41, ↓sModel_isLogged_4, ↓sModel_isLogged_5, ↓sModel_isLogged_6, ↓sModel_isLogged_7, ↓sModel_isLogged_10, ↓sModel_isLogged_11, ↓sModel_isLogged_14, ↓sModel_isLogged_15, ↓sModel_isLogged_17, ↓sModel_isLogged_18, ↓sModel_isLogged_20, ↓sModel_isLogged_22, ↓sModel_isLogged_23, ↓sModel_isLogged_26, ↓sModel_isLogged_28, ↓sModel_isLogged_31, ↓sModel_isLogged_32, ↓rf_43_40, ↓sModel_isLogged_35, ↓sModel_isLogged_37, ↓sModel_isLogged_38, ↓sModel_isLogged_39, ↓sModel_isLogged_41, ↓sModel_isLogged_42, ↓sModel_isLogged_43, ↓sModel_isLogged_44, ↓rf_43_19, ↓sModel_isLogged_47, ↓sModel_isLogged_48, ↓sModel_isLogged_50, ↓sModel_isLogged_51, ↓sModel_isLogged_52, ↓sModel_isLogged_55, ↓sModel_isLogged_58, ↓sModel_isLogged_59, ↓sModel_isLogged_62, ↓sModel_isLogged_63, ↓sModel_isLogged_65, ↓sModel_isLogged_68, ↓sModel_isLogged_71, ↓sModel_isLogged_73, ↓ln_57, ↓ln_69, ↓ln_70, List.set_cons_zero, List.set_cons_succ, List.length_cons, List.length_nil, List.contains_cons, List.contains_nil, cat1, brP_d, true_and, and_true, not_false_eq_true, not_true_eq_false, if_true, if_false, Bool.or_false, Bool.false_or, Bool.or_true, Bool.true_or, Bool.false_eq_true, Bool.or_self, false_implies, true_implies, forall_const, and_self, implies_true, true_or, or_true, or_false, false_or, or_self, Classical.not_not, Int.reduceAdd, Int.reduceSub, Int.reduceMul, Int.reduceNeg, Int.reduceToNat, Int.reduceLT, Int.reduceLE, Int.reduceEq, Int.reduceNe, Int.reduceNatCast', Nat.reduceAdd, Nat.reduceSub, Nat.reduceLeDiff, Nat.reduceLT, Nat.reduceEqDiff, Nat.reduceBEq, reduceIte, nx_w, nx_c, up_n, up_s, up_f, ne_eq, Nat.reduceEqDiff, Option.some.injEq, Prod.mk.injEq, exists_eq_left', reduceCtorEq, ar_57, ar_69, ar_70, ep, e70]
  have lp := l_Model_isLogged g h hC hG hm hmg p k hp hk ((g 23 k).toNat + 1) 0
  exact ⟨by omega, fun c1 => lp 0 (by omega) (by omega) (by omega) (Or.inr ⟨rfl, fun z => c1 z.1⟩), fun c1 => lp 1 (by omega) (by omega) (by omega) (Or.inl ⟨rfl, c1, fun j hj => by omega⟩)⟩
def lm69 (g h : HP) (k : Nat) (i : Int) (h' : HP) : Prop := (∀ a, a ≠ 69 → h' a = h a) ∧ ∀ b : Nat, h' 69 b = if 12 * g 36 4 ≤ b ∧ (b : Int) < 12 * g 36 4 + i then tw g k (b - (12 * g 36 4).toNat) + 97 else h 69 b
def qLogM (g h : HP) (k : Nat) (w : Int) (h' : HP) : Prop := (∃ p : Nat, (p : Int) < g 36 4 ∧ lgP g k w p ∧ (∀ j : Nat, j < p → ¬ lgP g k w j) ∧ h' = up h 72 p (wr (h 72 p + 1))) ∨ ((∀ p : Nat, (p : Int) < g 36 4 → ¬ lgP g k w p) ∧ (((12 < g 23 k ∨ 40 ≤ g 36 4) ∧ h' = h) ∨ (g 23 k ≤ 12 ∧ g 36 4 < 40 ∧ ∃ h1, lm69 g h k (g 23 k) h1 ∧ h' = up (up (up (up h1 70 (g 36 4).toNat (g 23 k)) 71 (g 36 4).toNat w) 72 (g 36 4).toNat 1) 43 39 (g 36 4 + 1))))
set_option maxRecDepth 100000 in
set_option maxHeartbeats 4000000 in
theorem l2_Model_log (g h : HP) (hC : CI g) (hG : CLg g) (hm : CM g h) (hmg : CMg g h) (k : Nat) (hk : (k : Int) < g 19 5) (w : Int) (h12 : g 23 k ≤ 12) (h40' : g 36 4 < 40) (hno : ∀ p : Nat, (p : Int) < g 36 4 → ¬ lgP g k w p) : ∀ (d : Nat) (i : Int) (h' : HP), g 23 k - i < d → 0 ≤ i → i ≤ g 23 k → lm69 g h k i h' → Wn Z4 mModel_log SH0 71 [some (.inr (.inr 43)), some (.inl (g 22 k)), some (.inl (g 23 k)), some (.inl w), some (.inl i)] [] h' (rtV (qLogM g h k w)) := by
  have hL := hC.2.2.2.2
  obtain ⟨⟨t1, t2, t3⟩, t4⟩ := ty_in hL hk
  have h0 := hG.1
  intro d
  induction d with
  | zero => intro i h' h1 h2 h3; omega
  | succ d ih =>
    intro i h' h1 h2 h3 h4
    have e39 : h' 43 39 = g 36 4 := by rw [h4.1 43 (by decide)]; exact hmg.1
    have e57 : h' 57 = h 57 := h4.1 57 (by decide)
    refine go [71] 400 (k := ?_)
    simp (config := {maxSteps := 1000000}) only [↓pI_c, ↓pR_c, ↓pJ_c, ↓pV_c, ↓popN_0, ↓popN_s, ↓lI_0, ↓lR_0, ↓lJ_0, ↓lI_s, ↓lR_s, ↓lJ_s, ↓okSt_0, ↓okSt_I, ↓okSt_R, ↓okSt_N, ↓okSt_s, ↓rtI_s, ↓rtV_n, ↓brP_t, ↓brP_f, ↓sModel_log_0, ↓sModel_log_1, ↓sModel_log_3, ↓sModel_log_6, ↓sModel_log_7, ↓sModel_log_8, ↓sModel_log_10, ↓sModel_log_12, ↓sModel_log_13, ↓rf_43_39, ↓sModel_log_16, ↓sModel_log_19, ↓sModel_log_20, ↓rf_43_42, ↓sModel_log_23, ↓sModel_log_25, ↓sModel_log_26, ↓sModel_log_27, ↓sModel_log_30, ↓sModel_log_31, ↓sModel_log_33, ↓sModel_log_34, ↓sModel_log_35, ↓sModel_log_38, ↓sModel_log_41, ↓sModel_log_42, ↓rf_43_43, ↓sModel_log_45, ↓sModel_log_47, ↓sModel_log_48, ↓sModel_log_49, ↓sModel_log_50, ↓sModel_log_51, ↓sModel_log_52, ↓sModel_log_53, ↓sModel_log_56, ↓sModel_log_59, ↓sModel_log_60, ↓sModel_log_63, ↓sModel_log_65, ↓sModel_log_68, ↓sModel_log_69, ↓sModel_log_71, ↓sModel_log_73, ↓sModel_log_74, ↓sModel_log_77, ↓sModel_log_78, ↓rf_43_40, ↓sModel_log_81, ↓sModel_log_83, ↓sModel_log_84, ↓sModel_log_87, ↓sModel_log_88, ↓sModel_log_90, ↓sModel_log_91, ↓sModel_log_92, ↓rf_43_19, ↓sModel_log_95, ↓sModel_log_96, ↓sModel_log_98, ↓sModel_log_99, ↓sModel_log_100, ↓sModel_log_103, ↓sModel_log_104, ↓sModel_log_107, ↓sModel_log_110, ↓sModel_log_111, ↓rf_43_41, ↓sModel_log_114, ↓sModel_log_115, ↓sModel_log_118, ↓sModel_log_119, ↓sModel_log_120, ↓sModel_log_121, ↓sModel_log_124, ↓sModel_log_125, ↓sModel_log_128, ↓sModel_log_129, ↓sModel_log_130, ↓sModel_log_131, ↓sModel_log_134, ↓sModel_log_135, ↓sModel_log_138, ↓sModel_log_139, ↓sModel_log_140, ↓sModel_log_141, ↓sModel_log_142, ↓sModel_log_145, ↓sModel_log_146, ↓sModel_log_147, ↓sModel_log_150, ↓ln_57, ↓ln_69, ↓ln_70, ↓ln_71, ↓ln_72, List.set_cons_zero, List.set_cons_succ, List.length_cons, List.length_nil, List.contains_cons, List.contains_nil, cat1, brP_d, true_and, and_true, not_false_eq_true, not_true_eq_false, if_true, if_false, Bool.or_false, Bool.false_or, Bool.or_true, Bool.true_or, Bool.false_eq_true, Bool.or_self, false_implies, true_implies, forall_const, and_self, implies_true, true_or, or_true, or_false, false_or, or_self, Classical.not_not, Int.reduceAdd, Int.reduceSub, Int.reduceMul, Int.reduceNeg, Int.reduceToNat, Int.reduceLT, Int.reduceLE, Int.reduceEq, Int.reduceNe, Int.reduceNatCast', Nat.reduceAdd, Nat.reduceSub, Nat.reduceLeDiff, Nat.reduceLT, Nat.reduceEqDiff, Nat.reduceBEq, reduceIte, nx_w, nx_c, up_n, up_s, up_f, ne_eq, Nat.reduceEqDiff, Option.some.injEq, Prod.mk.injEq, exists_eq_left', reduceCtorEq, ob_43, ar_72, ar_57, ar_69, ar_71, e39, e57]
    refine ⟨fun c1 => ?_, fun c1 => ?_⟩
    · rw [wr_id (x := g 36 4 + 1) (by omega) (by omega)]
      obtain rfl : i = g 23 k := by omega
      exact ⟨by omega, by omega, by omega, Or.inr ⟨hno, Or.inr ⟨h12, h40', h', h4, rfl⟩⟩⟩
    · have esm := sm_tw hL hm.2.2.2.2 hk (x := i.toNat) (by omega)
      rw [wr_id (x := i + 1) (by omega) (by omega), wr_id (x := 12 * g 36 4) (by omega) (by omega), wr_id (x := 12 * g 36 4 + i) (by omega) (by omega), wr_id (x := g 22 k + i) (by omega) (by omega), show (g 22 k + i).toNat = (g 22 k).toNat + i.toNat by omega]
      refine ⟨by omega, ?_⟩
      refine use_p (t_Model_small h' _) ?_
      rw [esm]
      refine ⟨by omega, ih (i + 1) _ (by omega) (by omega) (by omega) ⟨fun a ha => by rw [up_ne ha]; exact h4.1 a ha, fun b => ?_⟩⟩
      rw [up_a]
      by_cases z : b = (12 * g 36 4 + i).toNat
      · rw [if_pos z, if_pos (by omega)]
        congr 2
        omega
      · rw [if_neg z, h4.2 b]
        by_cases z2 : 12 * g 36 4 ≤ b ∧ (b : Int) < 12 * g 36 4 + i
        · rw [if_pos z2, if_pos (by omega)]
        · rw [if_neg z2, if_neg (by omega)]
set_option maxRecDepth 100000 in
set_option maxHeartbeats 4000000 in
theorem l1_Model_log (g h : HP) (hC : CI g) (hG : CLg g) (hm : CM g h) (hmg : CMg g h) (k : Nat) (hk : (k : Int) < g 19 5) (w : Int) (h12 : g 23 k ≤ 12) : ∀ (d i : Nat), g 36 4 - i < d → (i : Int) ≤ g 36 4 → (∀ j : Nat, j < i → ¬ lgP g k w j) → Wn Z4 mModel_log SH0 10 [some (.inr (.inr 43)), some (.inl (g 22 k)), some (.inl (g 23 k)), some (.inl w), some (.inl i)] [] h (rtV (qLogM g h k w)) := by
  have h40 := hG.2.1
  have h0 := hG.1
  have e39 := hmg.1
  obtain ⟨⟨t1, t2, t3⟩, t4⟩ := ty_in hC.2.2.2.2 hk
  intro d
  induction d with
  | zero => intro i h1 h2; omega
  | succ d ih =>
    intro i h1 h2 h3
    have ei : ((i : Int)).toNat = i := by omega
    have nx : (i : Int) < g 36 4 → ¬ lgP g k w i → Wn Z4 mModel_log SH0 10 [some (.inr (.inr 43)), some (.inl (g 22 k)), some (.inl (g 23 k)), some (.inl w), some (.inl ((i : Int) + 1))] [] h (rtV (qLogM g h k w)) := fun c1 z => by
      have := ih (i + 1) (by push_cast; omega) (by push_cast; omega) (fun j hj => by
        by_cases e : j = i
        · rw [e]; exact z
        · exact h3 j (by omega))
      push_cast at this
      exact this
    refine go [10,71] 400 (k := ?_)
    simp (config := {maxSteps := 1000000}) only [↓pI_c, ↓pR_c, ↓pJ_c, ↓pV_c, ↓popN_0, ↓popN_s, ↓lI_0, ↓lR_0, ↓lJ_0, ↓lI_s, ↓lR_s, ↓lJ_s, ↓okSt_0, ↓okSt_I, ↓okSt_R, ↓okSt_N, ↓okSt_s, ↓rtI_s, ↓rtV_n, ↓brP_t, ↓brP_f, ↓sModel_log_0, ↓sModel_log_1, ↓sModel_log_3, ↓sModel_log_6, ↓sModel_log_7, ↓sModel_log_8, ↓sModel_log_10, ↓sModel_log_12, ↓sModel_log_13, ↓rf_43_39, ↓sModel_log_16, ↓sModel_log_19, ↓sModel_log_20, ↓rf_43_42, ↓sModel_log_23, ↓sModel_log_25, ↓sModel_log_26, ↓sModel_log_27, ↓sModel_log_30, ↓sModel_log_31, ↓sModel_log_33, ↓sModel_log_34, ↓sModel_log_35, ↓sModel_log_38, ↓sModel_log_41, ↓sModel_log_42, ↓rf_43_43, ↓sModel_log_45, ↓sModel_log_47, ↓sModel_log_48, ↓sModel_log_49, ↓sModel_log_50, ↓sModel_log_51, ↓sModel_log_52, ↓sModel_log_53, ↓sModel_log_56, ↓sModel_log_59, ↓sModel_log_60, ↓sModel_log_63, ↓sModel_log_65, ↓sModel_log_68, ↓sModel_log_69, ↓sModel_log_71, ↓sModel_log_73, ↓sModel_log_74, ↓sModel_log_77, ↓sModel_log_78, ↓rf_43_40, ↓sModel_log_81, ↓sModel_log_83, ↓sModel_log_84, ↓sModel_log_87, ↓sModel_log_88, ↓sModel_log_90, ↓sModel_log_91, ↓sModel_log_92, ↓rf_43_19, ↓sModel_log_95, ↓sModel_log_96, ↓sModel_log_98, ↓sModel_log_99, ↓sModel_log_100, ↓sModel_log_103, ↓sModel_log_104, ↓sModel_log_107, ↓sModel_log_110, ↓sModel_log_111, ↓rf_43_41, ↓sModel_log_114, ↓sModel_log_115, ↓sModel_log_118, ↓sModel_log_119, ↓sModel_log_120, ↓sModel_log_121, ↓sModel_log_124, ↓sModel_log_125, ↓sModel_log_128, ↓sModel_log_129, ↓sModel_log_130, ↓sModel_log_131, ↓sModel_log_134, ↓sModel_log_135, ↓sModel_log_138, ↓sModel_log_139, ↓sModel_log_140, ↓sModel_log_141, ↓sModel_log_142, ↓sModel_log_145, ↓sModel_log_146, ↓sModel_log_147, ↓sModel_log_150, ↓ln_57, ↓ln_69, ↓ln_70, ↓ln_71, ↓ln_72, List.set_cons_zero, List.set_cons_succ, List.length_cons, List.length_nil, List.contains_cons, List.contains_nil, cat1, brP_d, true_and, and_true, not_false_eq_true, not_true_eq_false, if_true, if_false, Bool.or_false, Bool.false_or, Bool.or_true, Bool.true_or, Bool.false_eq_true, Bool.or_self, false_implies, true_implies, forall_const, and_self, implies_true, true_or, or_true, or_false, false_or, or_self, Classical.not_not, Int.reduceAdd, Int.reduceSub, Int.reduceMul, Int.reduceNeg, Int.reduceToNat, Int.reduceLT, Int.reduceLE, Int.reduceEq, Int.reduceNe, Int.reduceNatCast', Nat.reduceAdd, Nat.reduceSub, Nat.reduceLeDiff, Nat.reduceLT, Nat.reduceEqDiff, Nat.reduceBEq, reduceIte, nx_w, nx_c, up_n, up_s, up_f, ne_eq, Nat.reduceEqDiff, Option.some.injEq, Prod.mk.injEq, exists_eq_left', reduceCtorEq, ob_43, ar_72, ar_57, ar_69, ar_71, ei, e39]
    rw [wr_id (x := (i : Int) + 1) (by omega) (by omega)]
    refine ⟨fun c1 => ?_, fun c1 => ?_⟩
    · have hno : ∀ p : Nat, (p : Int) < g 36 4 → ¬ lgP g k w p := fun p hp => h3 p (by omega)
      refine ⟨fun c2 => Or.inr ⟨hno, Or.inl ⟨Or.inr c2, rfl⟩⟩, fun c2 => ?_⟩
      exact l2_Model_log g h hC hG hm hmg k hk w h12 (by omega) hno ((g 23 k).toNat + 1) 0 h (by omega) (by omega) (by omega) ⟨fun _ _ => rfl, fun b => by rw [if_neg (by omega)]⟩
    · have e71 := (hmg.2 i (by omega)).2.1
      rw [e71]
      refine ⟨by omega, fun c2 => nx (by omega) (fun z => c2 z.1), fun c2 => ?_⟩
      refine use_b (t_Model_isLogged g h hC hG hm hmg i k (by omega) hk) (fun hc => ?_) (fun hc => ?_)
      · simp only [one_ne, not_false_eq_true, true_implies, false_implies, true_and, and_true]
        exact ⟨by omega, by omega, Or.inl ⟨i, by omega, ⟨c2, hc⟩, h3, rfl⟩⟩
      · simp only [not_true_eq_false, true_implies, false_implies, true_and, and_true]
        exact nx (by omega) (fun z => hc z.2)
set_option maxRecDepth 100000 in
set_option maxHeartbeats 4000000 in
theorem t_Model_log (g h : HP) (hC : CI g) (hG : CLg g) (hm : CM g h) (hmg : CMg g h) (k : Nat) (hk : (k : Int) < g 19 5) (w : Int) : trV mModel_log [.inr (.inr 43), .inl (g 22 k), .inl (g 23 k), .inl w] SH0 h (qLogM g h k w) := by
  have h0 := hG.1
  refine startV [some (.inr (.inr 43)), some (.inl (g 22 k)), some (.inl (g 23 k)), some (.inl w), none] mModel_log_c (go [10] 400 (k := ?_))
  simp (config := {maxSteps := 1000000}) only [↓pI_c, ↓pR_c, ↓pJ_c, ↓pV_c, ↓popN_0, ↓popN_s, ↓lI_0, ↓lR_0, ↓lJ_0, ↓lI_s, ↓lR_s, ↓lJ_s, ↓okSt_0, ↓okSt_I, ↓okSt_R, ↓okSt_N, ↓okSt_s, ↓rtI_s, ↓rtV_n, ↓brP_t, ↓brP_f, ↓sModel_log_0, ↓sModel_log_1, ↓sModel_log_3, ↓sModel_log_6, ↓sModel_log_7, ↓sModel_log_8, ↓sModel_log_10, ↓sModel_log_12, ↓sModel_log_13, ↓rf_43_39, ↓sModel_log_16, ↓sModel_log_19, ↓sModel_log_20, ↓rf_43_42, ↓sModel_log_23, ↓sModel_log_25, ↓sModel_log_26, ↓sModel_log_27, ↓sModel_log_30, ↓sModel_log_31, ↓sModel_log_33, ↓sModel_log_34, ↓sModel_log_35, ↓sModel_log_38, ↓sModel_log_41, ↓sModel_log_42, ↓rf_43_43, ↓sModel_log_45, ↓sModel_log_47, ↓sModel_log_48, ↓sModel_log_49, ↓sModel_log_50, ↓sModel_log_51, ↓sModel_log_52, ↓sModel_log_53, ↓sModel_log_56, ↓sModel_log_59, ↓sModel_log_60, ↓sModel_log_63, ↓sModel_log_65, ↓sModel_log_68, ↓sModel_log_69, ↓sModel_log_71, ↓sModel_log_73, ↓sModel_log_74, ↓sModel_log_77, ↓sModel_log_78, ↓rf_43_40, ↓sModel_log_81, ↓sModel_log_83, ↓sModel_log_84, ↓sModel_log_87, ↓sModel_log_88, ↓sModel_log_90, ↓sModel_log_91, ↓sModel_log_92, ↓rf_43_19, ↓sModel_log_95, ↓sModel_log_96, ↓sModel_log_98, ↓sModel_log_99, ↓sModel_log_100, ↓sModel_log_103, ↓sModel_log_104, ↓sModel_log_107, ↓sModel_log_110, ↓sModel_log_111, ↓rf_43_41, ↓sModel_log_114, ↓sModel_log_115, ↓sModel_log_118, ↓sModel_log_119, ↓sModel_log_120, ↓sModel_log_121, ↓sModel_log_124, ↓sModel_log_125, ↓sModel_log_128, ↓sModel_log_129, ↓sModel_log_130, ↓sModel_log_131, ↓sModel_log_134, ↓sModel_log_135, ↓sModel_log_138, ↓sModel_log_139, ↓sModel_log_140, ↓sModel_log_141, ↓sModel_log_142, ↓sModel_log_145, ↓sModel_log_146, ↓sModel_log_147, ↓sModel_log_150, ↓ln_57, ↓ln_69, ↓ln_70, ↓ln_71, ↓ln_72, List.set_cons_zero, List.set_cons_succ, List.length_cons, List.length_nil, List.contains_cons, List.contains_nil, cat1, brP_d, true_and, and_true, not_false_eq_true, not_true_eq_false, if_true, if_false, Bool.or_false, Bool.false_or, Bool.or_true, Bool.true_or, Bool.false_eq_true, Bool.or_self, false_implies, true_implies, forall_const, and_self, implies_true, true_or, or_true, or_false, false_or, or_self, Classical.not_not, Int.reduceAdd, Int.reduceSub, Int.reduceMul, Int.reduceNeg, Int.reduceToNat, Int.reduceLT, Int.reduceLE, Int.reduceEq, Int.reduceNe, Int.reduceNatCast', Nat.reduceAdd, Nat.reduceSub, Nat.reduceLeDiff, Nat.reduceLT, Nat.reduceEqDiff, Nat.reduceBEq, reduceIte, nx_w, nx_c, up_n, up_s, up_f, ne_eq, Nat.reduceEqDiff, Option.some.injEq, Prod.mk.injEq, exists_eq_left', reduceCtorEq, ob_43, ar_72, ar_57, ar_69, ar_71]
  refine ⟨fun c1 => l1_Model_log g h hC hG hm hmg k hk w (by omega) ((g 36 4).toNat + 1) 0 (by push_cast; omega) (by push_cast; omega) (fun j hj => absurd hj (Nat.not_lt_zero j)), fun c1 => Or.inr ⟨fun p hp z => ?_, Or.inl ⟨Or.inl (by omega), rfl⟩⟩⟩
  have := (hG.2.2 p hp).1
  have := z.2.1
  omega
-- becomes
def frst (g : HP) (w : Int) (n : Nat) : Prop := (n : Int) < g 6 3 ∧ g 9 n = w ∧ ∀ j : Nat, j < n → ¬ g 9 j = w
theorem frst_uni {g : HP} {w : Int} {n n' : Nat} (h : frst g w n) (h' : frst g w n') : n = n' := by
  rcases Nat.lt_trichotomy n n' with z | z | z
  · exact absurd h.2.1 (h'.2.2 n z)
  · exact z
  · exact absurd h'.2.1 (h.2.2 n' z)
theorem frst_ex {g : HP} {w : Int} : ∀ k : Nat, (k : Int) < g 6 3 → g 9 k = w → ∃ n, frst g w n := by
  intro k
  induction k using Nat.strongRecOn with
  | _ k ih =>
    intro h1 h2
    by_cases z : ∃ j : Nat, j < k ∧ g 9 j = w
    · obtain ⟨j, j1, j2⟩ := z
      exact ih j j1 (by omega) j2
    · exact ⟨k, h1, h2, fun j hj e => z ⟨j, hj, e⟩⟩
def acM (g h : HP) (k : Nat) (w : Int) (h' : HP) : Prop := ∃ n : Nat, frst g w n ∧ ∃ h1, qLogM g h k w h1 ∧ (∀ a, a ≠ 43 → a ≠ 57 → a ≠ 58 → h' a = h1 a) ∧ (∀ b, b ≠ 18 → h' 43 b = h1 43 b) ∧ h' 43 18 = rpS g k n ∧ ∀ j : Nat, (j : Int) < rpS g k n → h' 57 j = rpF g k n j
theorem qLogM_ne {g h h' : HP} {k : Nat} {w : Int} (hq : qLogM g h k w h') : (∀ a, a ≠ 43 → a ≠ 69 → a ≠ 70 → a ≠ 71 → a ≠ 72 → h' a = h a) ∧ ∀ b, b ≠ 39 → h' 43 b = h 43 b := by
  rcases hq with ⟨p, _, _, _, rfl⟩ | ⟨_, ⟨_, rfl⟩ | ⟨_, _, h1, e1, rfl⟩⟩
  · exact ⟨fun a _ _ _ _ a5 => by rw [up_ne a5], fun b _ => by rw [up_n (by decide)]⟩
  · exact ⟨fun _ _ _ _ _ _ => rfl, fun _ _ => rfl⟩
  · refine ⟨fun a a1 a2 a3 a4 a5 => ?_, fun b hb => ?_⟩
    · rw [up_ne a1, up_ne a5, up_ne a4, up_ne a3, e1.1 a a2]
    · rw [up_f hb, up_n (by decide), up_n (by decide), up_n (by decide), e1.1 43 (by decide)]
set_option maxRecDepth 100000 in
set_option maxHeartbeats 4000000 in
theorem b4_Model_becomes (H : HP) (w at' l n L left : Int) (h1 : 0 ≤ at' ∧ 0 ≤ L ∧ 0 ≤ left ∧ at' + L + left ≤ 300) (hn : 0 ≤ n ∧ n < 90) (e49 : H 49 n.toNat = L) (Q : HP → Prop) (hQ : Q (cpy H 58 57 0 (at' + L).toNat left.toNat)) : ∀ (d : Nat) (i : Int), left - i < d → 0 ≤ i → i ≤ left → Wn Z4 mModel_becomes SH0 153 [some (.inr (.inr 43)), some (.inl w), some (.inl at'), some (.inl l), some (.inl n), some (.inl left), some (.inl i)] [] (cpy H 58 57 0 (at' + L).toNat i.toNat) (rtV Q) := by
  have f49 : ∀ m, cpy H 58 57 0 (at' + L).toNat m 49 = H 49 := fun m => cpy_ne (by decide)
  have f58 : ∀ m, cpy H 58 57 0 (at' + L).toNat m 58 = H 58 := fun m => cpy_ne (by decide)
  intro d
  induction d with
  | zero => intro i q1 q2 q3; omega
  | succ d ih =>
    intro i q1 q2 q3
    refine go [153] 400 (k := ?_)
    simp (config := {maxSteps := 1000000}) only [↓pI_c, ↓pR_c, ↓pJ_c, ↓pV_c, ↓popN_0, ↓popN_s, ↓lI_0, ↓lR_0, ↓lJ_0, ↓lI_s, ↓lR_s, ↓lJ_s, ↓okSt_0, ↓okSt_I, ↓okSt_R, ↓okSt_N, ↓okSt_s, ↓rtI_s, ↓rtV_n, ↓brP_t, ↓brP_f, ↓sModel_becomes_0, ↓sModel_becomes_1, ↓rf_43_23, ↓sModel_becomes_4, ↓sModel_becomes_5, ↓rf_43_30, ↓sModel_becomes_8, ↓sModel_becomes_9, ↓sModel_becomes_10, ↓sModel_becomes_11, ↓rf_43_24, ↓sModel_becomes_14, ↓sModel_becomes_15, ↓sModel_becomes_18, ↓sModel_becomes_19, ↓sModel_becomes_20, ↓sModel_becomes_21, ↓sModel_becomes_22, ↓sModel_becomes_23, ↓sModel_becomes_24, ↓sModel_becomes_27, ↓sModel_becomes_28, ↓sModel_becomes_30, ↓sModel_becomes_31, ↓rf_43_9, ↓sModel_becomes_34, ↓sModel_becomes_36, ↓sModel_becomes_37, ↓sModel_becomes_38, ↓sModel_becomes_41, ↓sModel_becomes_44, ↓sModel_becomes_47, ↓sModel_becomes_48, ↓rf_43_18, ↓sModel_becomes_51, ↓sModel_becomes_52, ↓sModel_becomes_53, ↓sModel_becomes_54, ↓sModel_becomes_55, ↓sModel_becomes_57, ↓sModel_becomes_58, ↓sModel_becomes_60, ↓sModel_becomes_62, ↓sModel_becomes_64, ↓sModel_becomes_67, ↓sModel_becomes_68, ↓rf_43_20, ↓sModel_becomes_71, ↓sModel_becomes_73, ↓sModel_becomes_74, ↓rf_43_19, ↓sModel_becomes_77, ↓sModel_becomes_78, ↓sModel_becomes_79, ↓sModel_becomes_80, ↓sModel_becomes_82, ↓sModel_becomes_83, ↓sModel_becomes_84, ↓sModel_becomes_85, ↓sModel_becomes_88, ↓sModel_becomes_91, ↓sModel_becomes_92, ↓sModel_becomes_94, ↓sModel_becomes_96, ↓sModel_becomes_97, ↓rf_43_8, ↓sModel_becomes_100, ↓sModel_becomes_102, ↓sModel_becomes_103, ↓sModel_becomes_106, ↓sModel_becomes_107, ↓sModel_becomes_110, ↓sModel_becomes_111, ↓sModel_becomes_113, ↓sModel_becomes_114, ↓sModel_becomes_115, ↓rf_43_7, ↓sModel_becomes_118, ↓sModel_becomes_120, ↓sModel_becomes_122, ↓sModel_becomes_123, ↓sModel_becomes_125, ↓sModel_becomes_126, ↓sModel_becomes_127, ↓sModel_becomes_128, ↓sModel_becomes_131, ↓sModel_becomes_134, ↓sModel_becomes_135, ↓sModel_becomes_136, ↓sModel_becomes_137, ↓sModel_becomes_140, ↓sModel_becomes_142, ↓sModel_becomes_143, ↓sModel_becomes_144, ↓sModel_becomes_146, ↓sModel_becomes_147, ↓sModel_becomes_150, ↓sModel_becomes_151, ↓sModel_becomes_153, ↓sModel_becomes_155, ↓sModel_becomes_157, ↓sModel_becomes_160, ↓sModel_becomes_161, ↓sModel_becomes_164, ↓sModel_becomes_165, ↓sModel_becomes_166, ↓sModel_becomes_169, ↓sModel_becomes_171, ↓sModel_becomes_172, ↓sModel_becomes_173, ↓sModel_becomes_175, ↓sModel_becomes_176, ↓sModel_becomes_177, ↓sModel_becomes_180, ↓sModel_becomes_182, ↓sModel_becomes_183, ↓sModel_becomes_184, ↓sModel_becomes_187, ↓sModel_becomes_190, ↓ln_48, ↓ln_49, ↓ln_50, ↓ln_57, ↓ln_58, ↓ln_59, ↓ln_60, List.set_cons_zero, List.set_cons_succ, List.length_cons, List.length_nil, List.contains_cons, List.contains_nil, cat1, brP_d, true_and, and_true, not_false_eq_true, not_true_eq_false, if_true, if_false, Bool.or_false, Bool.false_or, Bool.or_true, Bool.true_or, Bool.false_eq_true, Bool.or_self, false_implies, true_implies, forall_const, and_self, implies_true, true_or, or_true, or_false, false_or, or_self, Classical.not_not, Int.reduceAdd, Int.reduceSub, Int.reduceMul, Int.reduceNeg, Int.reduceToNat, Int.reduceLT, Int.reduceLE, Int.reduceEq, Int.reduceNe, Int.reduceNatCast', Nat.reduceAdd, Nat.reduceSub, Nat.reduceLeDiff, Nat.reduceLT, Nat.reduceEqDiff, Nat.reduceBEq, reduceIte, nx_w, nx_c, up_n, up_s, up_f, ne_eq, Nat.reduceEqDiff, Option.some.injEq, Prod.mk.injEq, exists_eq_left', reduceCtorEq, ob_43, f49, f58, e49]
    refine ⟨fun c1 => ?_, fun c1 => ?_⟩
    · rw [show i = left by omega]
      exact hQ
    · rw [wr_id (x := at' + L) (by omega) (by omega), wr_id (x := at' + L + i) (by omega) (by omega), wr_id (x := i + 1) (by omega) (by omega)]
      have := ih (i + 1) (by omega) (by omega) (by omega)
      rw [show (i + 1).toNat = i.toNat + 1 by omega, ← cpy_s] at this
      rw [show (at' + L + i).toNat = (at' + L).toNat + i.toNat by omega]
      refine ⟨by omega, by omega, by omega, ?_⟩
      rw [Nat.zero_add] at this
      exact this
set_option maxRecDepth 100000 in
set_option maxHeartbeats 4000000 in
theorem b3_Model_becomes (H : HP) (w at' l n L left : Int) (h1 : 0 ≤ at' ∧ 0 ≤ L ∧ L ≤ 12 ∧ at' + L ≤ 300) (hn : 0 ≤ n ∧ n < 90) (e49 : H 49 n.toNat = L) (P : Option AV → HP → Prop) (hX : Wn Z4 mModel_becomes SH0 134 [some (.inr (.inr 43)), some (.inl w), some (.inl at'), some (.inl l), some (.inl n), some (.inl left), some (.inl L)] [] (cpy H 48 57 (12 * n).toNat at'.toNat L.toNat) P) : ∀ (d : Nat) (i : Int), L - i < d → 0 ≤ i → i ≤ L → Wn Z4 mModel_becomes SH0 94 [some (.inr (.inr 43)), some (.inl w), some (.inl at'), some (.inl l), some (.inl n), some (.inl left), some (.inl i)] [] (cpy H 48 57 (12 * n).toNat at'.toNat i.toNat) P := by
  have f49 : ∀ m, cpy H 48 57 (12 * n).toNat at'.toNat m 49 = H 49 := fun m => cpy_ne (by decide)
  have f48 : ∀ m, cpy H 48 57 (12 * n).toNat at'.toNat m 48 = H 48 := fun m => cpy_ne (by decide)
  intro d
  induction d with
  | zero => intro i q1 q2 q3; omega
  | succ d ih =>
    intro i q1 q2 q3
    refine go [94,134] 400 (k := ?_)
    simp (config := {maxSteps := 1000000}) only [↓pI_c, ↓pR_c, ↓pJ_c, ↓pV_c, ↓popN_0, ↓popN_s, ↓lI_0, ↓lR_0, ↓lJ_0, ↓lI_s, ↓lR_s, ↓lJ_s, ↓okSt_0, ↓okSt_I, ↓okSt_R, ↓okSt_N, ↓okSt_s, ↓rtI_s, ↓rtV_n, ↓brP_t, ↓brP_f, ↓sModel_becomes_0, ↓sModel_becomes_1, ↓rf_43_23, ↓sModel_becomes_4, ↓sModel_becomes_5, ↓rf_43_30, ↓sModel_becomes_8, ↓sModel_becomes_9, ↓sModel_becomes_10, ↓sModel_becomes_11, ↓rf_43_24, ↓sModel_becomes_14, ↓sModel_becomes_15, ↓sModel_becomes_18, ↓sModel_becomes_19, ↓sModel_becomes_20, ↓sModel_becomes_21, ↓sModel_becomes_22, ↓sModel_becomes_23, ↓sModel_becomes_24, ↓sModel_becomes_27, ↓sModel_becomes_28, ↓sModel_becomes_30, ↓sModel_becomes_31, ↓rf_43_9, ↓sModel_becomes_34, ↓sModel_becomes_36, ↓sModel_becomes_37, ↓sModel_becomes_38, ↓sModel_becomes_41, ↓sModel_becomes_44, ↓sModel_becomes_47, ↓sModel_becomes_48, ↓rf_43_18, ↓sModel_becomes_51, ↓sModel_becomes_52, ↓sModel_becomes_53, ↓sModel_becomes_54, ↓sModel_becomes_55, ↓sModel_becomes_57, ↓sModel_becomes_58, ↓sModel_becomes_60, ↓sModel_becomes_62, ↓sModel_becomes_64, ↓sModel_becomes_67, ↓sModel_becomes_68, ↓rf_43_20, ↓sModel_becomes_71, ↓sModel_becomes_73, ↓sModel_becomes_74, ↓rf_43_19, ↓sModel_becomes_77, ↓sModel_becomes_78, ↓sModel_becomes_79, ↓sModel_becomes_80, ↓sModel_becomes_82, ↓sModel_becomes_83, ↓sModel_becomes_84, ↓sModel_becomes_85, ↓sModel_becomes_88, ↓sModel_becomes_91, ↓sModel_becomes_92, ↓sModel_becomes_94, ↓sModel_becomes_96, ↓sModel_becomes_97, ↓rf_43_8, ↓sModel_becomes_100, ↓sModel_becomes_102, ↓sModel_becomes_103, ↓sModel_becomes_106, ↓sModel_becomes_107, ↓sModel_becomes_110, ↓sModel_becomes_111, ↓sModel_becomes_113, ↓sModel_becomes_114, ↓sModel_becomes_115, ↓rf_43_7, ↓sModel_becomes_118, ↓sModel_becomes_120, ↓sModel_becomes_122, ↓sModel_becomes_123, ↓sModel_becomes_125, ↓sModel_becomes_126, ↓sModel_becomes_127, ↓sModel_becomes_128, ↓sModel_becomes_131, ↓sModel_becomes_134, ↓sModel_becomes_135, ↓sModel_becomes_136, ↓sModel_becomes_137, ↓sModel_becomes_140, ↓sModel_becomes_142, ↓sModel_becomes_143, ↓sModel_becomes_144, ↓sModel_becomes_146, ↓sModel_becomes_147, ↓sModel_becomes_150, ↓sModel_becomes_151, ↓sModel_becomes_153, ↓sModel_becomes_155, ↓sModel_becomes_157, ↓sModel_becomes_160, ↓sModel_becomes_161, ↓sModel_becomes_164, ↓sModel_becomes_165, ↓sModel_becomes_166, ↓sModel_becomes_169, ↓sModel_becomes_171, ↓sModel_becomes_172, ↓sModel_becomes_173, ↓sModel_becomes_175, ↓sModel_becomes_176, ↓sModel_becomes_177, ↓sModel_becomes_180, ↓sModel_becomes_182, ↓sModel_becomes_183, ↓sModel_becomes_184, ↓sModel_becomes_187, ↓sModel_becomes_190, ↓ln_48, ↓ln_49, ↓ln_50, ↓ln_57, ↓ln_58, ↓ln_59, ↓ln_60, List.set_cons_zero, List.set_cons_succ, List.length_cons, List.length_nil, List.contains_cons, List.contains_nil, cat1, brP_d, true_and, and_true, not_false_eq_true, not_true_eq_false, if_true, if_false, Bool.or_false, Bool.false_or, Bool.or_true, Bool.true_or, Bool.false_eq_true, Bool.or_self, false_implies, true_implies, forall_const, and_self, implies_true, true_or, or_true, or_false, false_or, or_self, Classical.not_not, Int.reduceAdd, Int.reduceSub, Int.reduceMul, Int.reduceNeg, Int.reduceToNat, Int.reduceLT, Int.reduceLE, Int.reduceEq, Int.reduceNe, Int.reduceNatCast', Nat.reduceAdd, Nat.reduceSub, Nat.reduceLeDiff, Nat.reduceLT, Nat.reduceEqDiff, Nat.reduceBEq, reduceIte, nx_w, nx_c, up_n, up_s, up_f, ne_eq, Nat.reduceEqDiff, Option.some.injEq, Prod.mk.injEq, exists_eq_left', reduceCtorEq, ob_43, f49, f48, e49]
    refine ⟨by omega, fun c1 => ?_, fun c1 => ?_⟩
    · obtain rfl : i = L := by omega
      exact hX
    · rw [wr_id (x := at' + i) (by omega) (by omega), wr_id (x := 12 * n) (by omega) (by omega), wr_id (x := 12 * n + i) (by omega) (by omega), wr_id (x := i + 1) (by omega) (by omega)]
      have := ih (i + 1) (by omega) (by omega) (by omega)
      rw [show (i + 1).toNat = i.toNat + 1 by omega, ← cpy_s] at this
      rw [show (at' + i).toNat = at'.toNat + i.toNat by omega, show (12 * n + i).toNat = (12 * n).toNat + i.toNat by omega]
      exact ⟨by omega, by omega, this⟩
set_option maxRecDepth 100000 in
set_option maxHeartbeats 4000000 in
theorem b2_Model_becomes (H : HP) (w at' l n left : Int) (h1 : 0 ≤ at' ∧ 0 ≤ l ∧ 0 ≤ left ∧ at' + l + left ≤ 300) (P : Option AV → HP → Prop) (hX : Wn Z4 mModel_becomes SH0 91 [some (.inr (.inr 43)), some (.inl w), some (.inl at'), some (.inl l), some (.inl n), some (.inl left), some (.inl left)] [] (cpy H 57 58 (at' + l).toNat 0 left.toNat) P) : ∀ (d : Nat) (i : Int), left - i < d → 0 ≤ i → i ≤ left → Wn Z4 mModel_becomes SH0 60 [some (.inr (.inr 43)), some (.inl w), some (.inl at'), some (.inl l), some (.inl n), some (.inl left), some (.inl i)] [] (cpy H 57 58 (at' + l).toNat 0 i.toNat) P := by
  have f57 : ∀ m, cpy H 57 58 (at' + l).toNat 0 m 57 = H 57 := fun m => cpy_ne (by decide)
  intro d
  induction d with
  | zero => intro i q1 q2 q3; omega
  | succ d ih =>
    intro i q1 q2 q3
    refine go [60,91] 400 (k := ?_)
    simp (config := {maxSteps := 1000000}) only [↓pI_c, ↓pR_c, ↓pJ_c, ↓pV_c, ↓popN_0, ↓popN_s, ↓lI_0, ↓lR_0, ↓lJ_0, ↓lI_s, ↓lR_s, ↓lJ_s, ↓okSt_0, ↓okSt_I, ↓okSt_R, ↓okSt_N, ↓okSt_s, ↓rtI_s, ↓rtV_n, ↓brP_t, ↓brP_f, ↓sModel_becomes_0, ↓sModel_becomes_1, ↓rf_43_23, ↓sModel_becomes_4, ↓sModel_becomes_5, ↓rf_43_30, ↓sModel_becomes_8, ↓sModel_becomes_9, ↓sModel_becomes_10, ↓sModel_becomes_11, ↓rf_43_24, ↓sModel_becomes_14, ↓sModel_becomes_15, ↓sModel_becomes_18, ↓sModel_becomes_19, ↓sModel_becomes_20, ↓sModel_becomes_21, ↓sModel_becomes_22, ↓sModel_becomes_23, ↓sModel_becomes_24, ↓sModel_becomes_27, ↓sModel_becomes_28, ↓sModel_becomes_30, ↓sModel_becomes_31, ↓rf_43_9, ↓sModel_becomes_34, ↓sModel_becomes_36, ↓sModel_becomes_37, ↓sModel_becomes_38, ↓sModel_becomes_41, ↓sModel_becomes_44, ↓sModel_becomes_47, ↓sModel_becomes_48, ↓rf_43_18, ↓sModel_becomes_51, ↓sModel_becomes_52, ↓sModel_becomes_53, ↓sModel_becomes_54, ↓sModel_becomes_55, ↓sModel_becomes_57, ↓sModel_becomes_58, ↓sModel_becomes_60, ↓sModel_becomes_62, ↓sModel_becomes_64, ↓sModel_becomes_67, ↓sModel_becomes_68, ↓rf_43_20, ↓sModel_becomes_71, ↓sModel_becomes_73, ↓sModel_becomes_74, ↓rf_43_19, ↓sModel_becomes_77, ↓sModel_becomes_78, ↓sModel_becomes_79, ↓sModel_becomes_80, ↓sModel_becomes_82, ↓sModel_becomes_83, ↓sModel_becomes_84, ↓sModel_becomes_85, ↓sModel_becomes_88, ↓sModel_becomes_91, ↓sModel_becomes_92, ↓sModel_becomes_94, ↓sModel_becomes_96, ↓sModel_becomes_97, ↓rf_43_8, ↓sModel_becomes_100, ↓sModel_becomes_102, ↓sModel_becomes_103, ↓sModel_becomes_106, ↓sModel_becomes_107, ↓sModel_becomes_110, ↓sModel_becomes_111, ↓sModel_becomes_113, ↓sModel_becomes_114, ↓sModel_becomes_115, ↓rf_43_7, ↓sModel_becomes_118, ↓sModel_becomes_120, ↓sModel_becomes_122, ↓sModel_becomes_123, ↓sModel_becomes_125, ↓sModel_becomes_126, ↓sModel_becomes_127, ↓sModel_becomes_128, ↓sModel_becomes_131, ↓sModel_becomes_134, ↓sModel_becomes_135, ↓sModel_becomes_136, ↓sModel_becomes_137, ↓sModel_becomes_140, ↓sModel_becomes_142, ↓sModel_becomes_143, ↓sModel_becomes_144, ↓sModel_becomes_146, ↓sModel_becomes_147, ↓sModel_becomes_150, ↓sModel_becomes_151, ↓sModel_becomes_153, ↓sModel_becomes_155, ↓sModel_becomes_157, ↓sModel_becomes_160, ↓sModel_becomes_161, ↓sModel_becomes_164, ↓sModel_becomes_165, ↓sModel_becomes_166, ↓sModel_becomes_169, ↓sModel_becomes_171, ↓sModel_becomes_172, ↓sModel_becomes_173, ↓sModel_becomes_175, ↓sModel_becomes_176, ↓sModel_becomes_177, ↓sModel_becomes_180, ↓sModel_becomes_182, ↓sModel_becomes_183, ↓sModel_becomes_184, ↓sModel_becomes_187, ↓sModel_becomes_190, ↓ln_48, ↓ln_49, ↓ln_50, ↓ln_57, ↓ln_58, ↓ln_59, ↓ln_60, List.set_cons_zero, List.set_cons_succ, List.length_cons, List.length_nil, List.contains_cons, List.contains_nil, cat1, brP_d, true_and, and_true, not_false_eq_true, not_true_eq_false, if_true, if_false, Bool.or_false, Bool.false_or, Bool.or_true, Bool.true_or, Bool.false_eq_true, Bool.or_self, false_implies, true_implies, forall_const, and_self, implies_true, true_or, or_true, or_false, false_or, or_self, Classical.not_not, Int.reduceAdd, Int.reduceSub, Int.reduceMul, Int.reduceNeg, Int.reduceToNat, Int.reduceLT, Int.reduceLE, Int.reduceEq, Int.reduceNe, Int.reduceNatCast', Nat.reduceAdd, Nat.reduceSub, Nat.reduceLeDiff, Nat.reduceLT, Nat.reduceEqDiff, Nat.reduceBEq, reduceIte, nx_w, nx_c, up_n, up_s, up_f, ne_eq, Nat.reduceEqDiff, Option.some.injEq, Prod.mk.injEq, exists_eq_left', reduceCtorEq, ob_43, f57]
    refine ⟨fun c1 => ?_, fun c1 => ?_⟩
    · obtain rfl : i = left := by omega
      exact hX
    · rw [wr_id (x := at' + l) (by omega) (by omega), wr_id (x := at' + l + i) (by omega) (by omega), wr_id (x := i + 1) (by omega) (by omega)]
      have := ih (i + 1) (by omega) (by omega) (by omega)
      rw [show (i + 1).toNat = i.toNat + 1 by omega, ← cpy_s] at this
      rw [show (at' + l + i).toNat = (at' + l).toNat + i.toNat by omega]
      rw [Nat.zero_add] at this
      exact ⟨by omega, by omega, this⟩
set_option maxRecDepth 100000 in
set_option maxHeartbeats 4000000 in
theorem b1_Model_becomes (H : HP) (w at' l : Int) (n : Nat) (hn : n < 90) (h1 : H 50 n = w) (h2 : ∀ j : Nat, j < n → ¬ H 50 j = w) (P : Option AV → HP → Prop) (hX : Wn Z4 mModel_becomes SH0 47 [some (.inr (.inr 43)), some (.inl w), some (.inl at'), some (.inl l), some (.inl n), none, none] [] H P) : ∀ (d i : Nat), n - i < d → i ≤ n → Wn Z4 mModel_becomes SH0 30 [some (.inr (.inr 43)), some (.inl w), some (.inl at'), some (.inl l), some (.inl i), none, none] [] H P := by
  intro d
  induction d with
  | zero => intro i q1 q2; omega
  | succ d ih =>
    intro i q1 q2
    have ei : ((i : Int)).toNat = i := by omega
    refine go [30,47] 400 (k := ?_)
    simp (config := {maxSteps := 1000000}) only [↓pI_c, ↓pR_c, ↓pJ_c, ↓pV_c, ↓popN_0, ↓popN_s, ↓lI_0, ↓lR_0, ↓lJ_0, ↓lI_s, ↓lR_s, ↓lJ_s, ↓okSt_0, ↓okSt_I, ↓okSt_R, ↓okSt_N, ↓okSt_s, ↓rtI_s, ↓rtV_n, ↓brP_t, ↓brP_f, ↓sModel_becomes_0, ↓sModel_becomes_1, ↓rf_43_23, ↓sModel_becomes_4, ↓sModel_becomes_5, ↓rf_43_30, ↓sModel_becomes_8, ↓sModel_becomes_9, ↓sModel_becomes_10, ↓sModel_becomes_11, ↓rf_43_24, ↓sModel_becomes_14, ↓sModel_becomes_15, ↓sModel_becomes_18, ↓sModel_becomes_19, ↓sModel_becomes_20, ↓sModel_becomes_21, ↓sModel_becomes_22, ↓sModel_becomes_23, ↓sModel_becomes_24, ↓sModel_becomes_27, ↓sModel_becomes_28, ↓sModel_becomes_30, ↓sModel_becomes_31, ↓rf_43_9, ↓sModel_becomes_34, ↓sModel_becomes_36, ↓sModel_becomes_37, ↓sModel_becomes_38, ↓sModel_becomes_41, ↓sModel_becomes_44, ↓sModel_becomes_47, ↓sModel_becomes_48, ↓rf_43_18, ↓sModel_becomes_51, ↓sModel_becomes_52, ↓sModel_becomes_53, ↓sModel_becomes_54, ↓sModel_becomes_55, ↓sModel_becomes_57, ↓sModel_becomes_58, ↓sModel_becomes_60, ↓sModel_becomes_62, ↓sModel_becomes_64, ↓sModel_becomes_67, ↓sModel_becomes_68, ↓rf_43_20, ↓sModel_becomes_71, ↓sModel_becomes_73, ↓sModel_becomes_74, ↓rf_43_19, ↓sModel_becomes_77, ↓sModel_becomes_78, ↓sModel_becomes_79, ↓sModel_becomes_80, ↓sModel_becomes_82, ↓sModel_becomes_83, ↓sModel_becomes_84, ↓sModel_becomes_85, ↓sModel_becomes_88, ↓sModel_becomes_91, ↓sModel_becomes_92, ↓sModel_becomes_94, ↓sModel_becomes_96, ↓sModel_becomes_97, ↓rf_43_8, ↓sModel_becomes_100, ↓sModel_becomes_102, ↓sModel_becomes_103, ↓sModel_becomes_106, ↓sModel_becomes_107, ↓sModel_becomes_110, ↓sModel_becomes_111, ↓sModel_becomes_113, ↓sModel_becomes_114, ↓sModel_becomes_115, ↓rf_43_7, ↓sModel_becomes_118, ↓sModel_becomes_120, ↓sModel_becomes_122, ↓sModel_becomes_123, ↓sModel_becomes_125, ↓sModel_becomes_126, ↓sModel_becomes_127, ↓sModel_becomes_128, ↓sModel_becomes_131, ↓sModel_becomes_134, ↓sModel_becomes_135, ↓sModel_becomes_136, ↓sModel_becomes_137, ↓sModel_becomes_140, ↓sModel_becomes_142, ↓sModel_becomes_143, ↓sModel_becomes_144, ↓sModel_becomes_146, ↓sModel_becomes_147, ↓sModel_becomes_150, ↓sModel_becomes_151, ↓sModel_becomes_153, ↓sModel_becomes_155, ↓sModel_becomes_157, ↓sModel_becomes_160, ↓sModel_becomes_161, ↓sModel_becomes_164, ↓sModel_becomes_165, ↓sModel_becomes_166, ↓sModel_becomes_169, ↓sModel_becomes_171, ↓sModel_becomes_172, ↓sModel_becomes_173, ↓sModel_becomes_175, ↓sModel_becomes_176, ↓sModel_becomes_177, ↓sModel_becomes_180, ↓sModel_becomes_182, ↓sModel_becomes_183, ↓sModel_becomes_184, ↓sModel_becomes_187, ↓sModel_becomes_190, ↓ln_48, ↓ln_49, ↓ln_50, ↓ln_57, ↓ln_58, ↓ln_59, ↓ln_60, List.set_cons_zero, List.set_cons_succ, List.length_cons, List.length_nil, List.contains_cons, List.contains_nil, cat1, brP_d, true_and, and_true, not_false_eq_true, not_true_eq_false, if_true, if_false, Bool.or_false, Bool.false_or, Bool.or_true, Bool.true_or, Bool.false_eq_true, Bool.or_self, false_implies, true_implies, forall_const, and_self, implies_true, true_or, or_true, or_false, false_or, or_self, Classical.not_not, Int.reduceAdd, Int.reduceSub, Int.reduceMul, Int.reduceNeg, Int.reduceToNat, Int.reduceLT, Int.reduceLE, Int.reduceEq, Int.reduceNe, Int.reduceNatCast', Nat.reduceAdd, Nat.reduceSub, Nat.reduceLeDiff, Nat.reduceLT, Nat.reduceEqDiff, Nat.reduceBEq, reduceIte, nx_w, nx_c, up_n, up_s, up_f, ne_eq, Nat.reduceEqDiff, Option.some.injEq, Prod.mk.injEq, exists_eq_left', reduceCtorEq, ob_43, ei]
    refine ⟨by omega, fun c1 => ?_, fun c1 => ?_⟩
    · have : i = n := by
        rcases Nat.lt_or_ge i n with z | z
        · exact absurd c1 (h2 i z)
        · omega
      rw [this]
      exact hX
    · rw [wr_id (x := (i : Int) + 1) (by omega) (by omega)]
      have hne : i ≠ n := fun e => c1 (by rw [e]; exact h1)
      have := ih (i + 1) (by omega) (by omega)
      push_cast at this
      exact this
set_option maxRecDepth 100000 in
set_option maxHeartbeats 4000000 in
theorem t_Model_becomes (g h : HP) (hC : CI g) (hG : CLg g) (hm : CM g h) (hmg : CMg g h) (ht : qTyp g h) (k : Nat) (hk : (k : Int) < g 19 5) (h30 : h 43 30 = k) (w : Int) (hw : 0 ≤ w ∧ w < g 10 4) : trV mModel_becomes [.inr (.inr 43), .inl w] SH0 h (acM g h k w) := by
  have hL := hC.2.2.2.2
  have hN := hC.2.1
  obtain ⟨⟨t1, t2, t3⟩, t4⟩ := ty_in hL hk
  have k10 := hL.2.2.2.1.2.1
  obtain ⟨k1, k2, k3, k4⟩ := hL.2.2.2.1.2.2.1 k hk
  have h92 := hL.2.1
  obtain ⟨n0, m1, m2⟩ := hN.2.2.2.2 w hw.1 hw.2
  obtain ⟨n, hf⟩ := frst_ex n0 m1 m2
  obtain ⟨⟨n1, n2, n3⟩, n4⟩ := nm_in hN hf.1
  have ek : ((k : Int)).toNat = k := by omega
  obtain ⟨e59, e60, _⟩ := ht.2 k hk
  refine startV [some (.inr (.inr 43)), some (.inl w), none, none, none, none, none] mModel_becomes_c (go [30] 400 (k := ?_))
  simp (config := {maxSteps := 1000000}) only [↓pI_c, ↓pR_c, ↓pJ_c, ↓pV_c, ↓popN_0, ↓popN_s, ↓lI_0, ↓lR_0, ↓lJ_0, ↓lI_s, ↓lR_s, ↓lJ_s, ↓okSt_0, ↓okSt_I, ↓okSt_R, ↓okSt_N, ↓okSt_s, ↓rtI_s, ↓rtV_n, ↓brP_t, ↓brP_f, ↓sModel_becomes_0, ↓sModel_becomes_1, ↓rf_43_23, ↓sModel_becomes_4, ↓sModel_becomes_5, ↓rf_43_30, ↓sModel_becomes_8, ↓sModel_becomes_9, ↓sModel_becomes_10, ↓sModel_becomes_11, ↓rf_43_24, ↓sModel_becomes_14, ↓sModel_becomes_15, ↓sModel_becomes_18, ↓sModel_becomes_19, ↓sModel_becomes_20, ↓sModel_becomes_21, ↓sModel_becomes_22, ↓sModel_becomes_23, ↓sModel_becomes_24, ↓sModel_becomes_27, ↓sModel_becomes_28, ↓sModel_becomes_30, ↓sModel_becomes_31, ↓rf_43_9, ↓sModel_becomes_34, ↓sModel_becomes_36, ↓sModel_becomes_37, ↓sModel_becomes_38, ↓sModel_becomes_41, ↓sModel_becomes_44, ↓sModel_becomes_47, ↓sModel_becomes_48, ↓rf_43_18, ↓sModel_becomes_51, ↓sModel_becomes_52, ↓sModel_becomes_53, ↓sModel_becomes_54, ↓sModel_becomes_55, ↓sModel_becomes_57, ↓sModel_becomes_58, ↓sModel_becomes_60, ↓sModel_becomes_62, ↓sModel_becomes_64, ↓sModel_becomes_67, ↓sModel_becomes_68, ↓rf_43_20, ↓sModel_becomes_71, ↓sModel_becomes_73, ↓sModel_becomes_74, ↓rf_43_19, ↓sModel_becomes_77, ↓sModel_becomes_78, ↓sModel_becomes_79, ↓sModel_becomes_80, ↓sModel_becomes_82, ↓sModel_becomes_83, ↓sModel_becomes_84, ↓sModel_becomes_85, ↓sModel_becomes_88, ↓sModel_becomes_91, ↓sModel_becomes_92, ↓sModel_becomes_94, ↓sModel_becomes_96, ↓sModel_becomes_97, ↓rf_43_8, ↓sModel_becomes_100, ↓sModel_becomes_102, ↓sModel_becomes_103, ↓sModel_becomes_106, ↓sModel_becomes_107, ↓sModel_becomes_110, ↓sModel_becomes_111, ↓sModel_becomes_113, ↓sModel_becomes_114, ↓sModel_becomes_115, ↓rf_43_7, ↓sModel_becomes_118, ↓sModel_becomes_120, ↓sModel_becomes_122, ↓sModel_becomes_123, ↓sModel_becomes_125, ↓sModel_becomes_126, ↓sModel_becomes_127, ↓sModel_becomes_128, ↓sModel_becomes_131, ↓sModel_becomes_134, ↓sModel_becomes_135, ↓sModel_becomes_136, ↓sModel_becomes_137, ↓sModel_becomes_140, ↓sModel_becomes_142, ↓sModel_becomes_143, ↓sModel_becomes_144, ↓sModel_becomes_146, ↓sModel_becomes_147, ↓sModel_becomes_150, ↓sModel_becomes_151, ↓sModel_becomes_153, ↓sModel_becomes_155, ↓sModel_becomes_157, ↓sModel_becomes_160, ↓sModel_becomes_161, ↓sModel_becomes_164, ↓sModel_becomes_165, ↓sModel_becomes_166, ↓sModel_becomes_169, ↓sModel_becomes_171, ↓sModel_becomes_172, ↓sModel_becomes_173, ↓sModel_becomes_175, ↓sModel_becomes_176, ↓sModel_becomes_177, ↓sModel_becomes_180, ↓sModel_becomes_182, ↓sModel_becomes_183, ↓sModel_becomes_184, ↓sModel_becomes_187, ↓sModel_becomes_190, ↓ln_48, ↓ln_49, ↓ln_50, ↓ln_57, ↓ln_58, ↓ln_59, ↓ln_60, List.set_cons_zero, List.set_cons_succ, List.length_cons, List.length_nil, List.contains_cons, List.contains_nil, cat1, brP_d, true_and, and_true, not_false_eq_true, not_true_eq_false, if_true, if_false, Bool.or_false, Bool.false_or, Bool.or_true, Bool.true_or, Bool.false_eq_true, Bool.or_self, false_implies, true_implies, forall_const, and_self, implies_true, true_or, or_true, or_false, false_or, or_self, Classical.not_not, Int.reduceAdd, Int.reduceSub, Int.reduceMul, Int.reduceNeg, Int.reduceToNat, Int.reduceLT, Int.reduceLE, Int.reduceEq, Int.reduceNe, Int.reduceNatCast', Nat.reduceAdd, Nat.reduceSub, Nat.reduceLeDiff, Nat.reduceLT, Nat.reduceEqDiff, Nat.reduceBEq, reduceIte, nx_w, nx_c, up_n, up_s, up_f, ne_eq, Nat.reduceEqDiff, Option.some.injEq, Prod.mk.injEq, exists_eq_left', reduceCtorEq, ob_43, h30, ek, e59, e60]
  refine ⟨by omega, by omega, trV_use (t_Model_log g h hC hG hm hmg k hk w) ?_⟩
  intro H hq
  obtain ⟨x1, x2⟩ := qLogM_ne hq
  have e50 : ∀ j : Nat, (j : Int) < g 6 3 → H 50 j = g 9 j := fun j hj => by rw [x1 50 (by decide) (by decide) (by decide) (by decide) (by decide)]; exact (hm.2.1.2 j hj).2.1
  have e49 : H 49 n = g 8 n := by rw [x1 49 (by decide) (by decide) (by decide) (by decide) (by decide)]; exact (hm.2.1.2 n hf.1).1
  have e48 : ∀ i : Nat, (i : Int) < g 8 n → H 48 (12 * n + i) = nmF g n i + 97 := fun i hi => by rw [x1 48 (by decide) (by decide) (by decide) (by decide) (by decide)]; exact (hm.2.1.2 n hf.1).2.2 i hi
  have e57 : ∀ j : Nat, (j : Int) < g 19 4 → H 57 j = g 20 j := fun j hj => by rw [x1 57 (by decide) (by decide) (by decide) (by decide) (by decide)]; exact hm.2.2.2.2.2.2 j hj
  have e18 : H 43 18 = g 19 4 := by rw [x2 18 (by decide)]; exact hm.2.2.2.2.1
  have en : ((n : Int)).toNat = n := by omega
  refine b1_Model_becomes H w (g 22 k) (g 23 k) n n1 (by rw [e50 n hf.1]; exact hf.2.1) (fun j hj => by rw [e50 j (by have := hf.1; omega)]; exact hf.2.2 j hj) _ ?_ (n + 1) 0 (by omega) (by omega)
  refine go [60] 400 (k := ?_)
  simp (config := {maxSteps := 1000000}) only [↓pI_c, ↓pR_c, ↓pJ_c, ↓pV_c, ↓popN_0, ↓popN_s, ↓lI_0, ↓lR_0, ↓lJ_0, ↓lI_s, ↓lR_s, ↓lJ_s, ↓okSt_0, ↓okSt_I, ↓okSt_R, ↓okSt_N, ↓okSt_s, ↓rtI_s, ↓rtV_n, ↓brP_t, ↓brP_f, ↓sModel_becomes_0, ↓sModel_becomes_1, ↓rf_43_23, ↓sModel_becomes_4, ↓sModel_becomes_5, ↓rf_43_30, ↓sModel_becomes_8, ↓sModel_becomes_9, ↓sModel_becomes_10, ↓sModel_becomes_11, ↓rf_43_24, ↓sModel_becomes_14, ↓sModel_becomes_15, ↓sModel_becomes_18, ↓sModel_becomes_19, ↓sModel_becomes_20, ↓sModel_becomes_21, ↓sModel_becomes_22, ↓sModel_becomes_23, ↓sModel_becomes_24, ↓sModel_becomes_27, ↓sModel_becomes_28, ↓sModel_becomes_30, ↓sModel_becomes_31, ↓rf_43_9, ↓sModel_becomes_34, ↓sModel_becomes_36, ↓sModel_becomes_37, ↓sModel_becomes_38, ↓sModel_becomes_41, ↓sModel_becomes_44, ↓sModel_becomes_47, ↓sModel_becomes_48, ↓rf_43_18, ↓sModel_becomes_51, ↓sModel_becomes_52, ↓sModel_becomes_53, ↓sModel_becomes_54, ↓sModel_becomes_55, ↓sModel_becomes_57, ↓sModel_becomes_58, ↓sModel_becomes_60, ↓sModel_becomes_62, ↓sModel_becomes_64, ↓sModel_becomes_67, ↓sModel_becomes_68, ↓rf_43_20, ↓sModel_becomes_71, ↓sModel_becomes_73, ↓sModel_becomes_74, ↓rf_43_19, ↓sModel_becomes_77, ↓sModel_becomes_78, ↓sModel_becomes_79, ↓sModel_becomes_80, ↓sModel_becomes_82, ↓sModel_becomes_83, ↓sModel_becomes_84, ↓sModel_becomes_85, ↓sModel_becomes_88, ↓sModel_becomes_91, ↓sModel_becomes_92, ↓sModel_becomes_94, ↓sModel_becomes_96, ↓sModel_becomes_97, ↓rf_43_8, ↓sModel_becomes_100, ↓sModel_becomes_102, ↓sModel_becomes_103, ↓sModel_becomes_106, ↓sModel_becomes_107, ↓sModel_becomes_110, ↓sModel_becomes_111, ↓sModel_becomes_113, ↓sModel_becomes_114, ↓sModel_becomes_115, ↓rf_43_7, ↓sModel_becomes_118, ↓sModel_becomes_120, ↓sModel_becomes_122, ↓sModel_becomes_123, ↓sModel_becomes_125, ↓sModel_becomes_126, ↓sModel_becomes_127, ↓sModel_becomes_128, ↓sModel_becomes_131, ↓sModel_becomes_134, ↓sModel_becomes_135, ↓sModel_becomes_136, ↓sModel_becomes_137, ↓sModel_becomes_140, ↓sModel_becomes_142, ↓sModel_becomes_143, ↓sModel_becomes_144, ↓sModel_becomes_146, ↓sModel_becomes_147, ↓sModel_becomes_150, ↓sModel_becomes_151, ↓sModel_becomes_153, ↓sModel_becomes_155, ↓sModel_becomes_157, ↓sModel_becomes_160, ↓sModel_becomes_161, ↓sModel_becomes_164, ↓sModel_becomes_165, ↓sModel_becomes_166, ↓sModel_becomes_169, ↓sModel_becomes_171, ↓sModel_becomes_172, ↓sModel_becomes_173, ↓sModel_becomes_175, ↓sModel_becomes_176, ↓sModel_becomes_177, ↓sModel_becomes_180, ↓sModel_becomes_182, ↓sModel_becomes_183, ↓sModel_becomes_184, ↓sModel_becomes_187, ↓sModel_becomes_190, ↓ln_48, ↓ln_49, ↓ln_50, ↓ln_57, ↓ln_58, ↓ln_59, ↓ln_60, List.set_cons_zero, List.set_cons_succ, List.length_cons, List.length_nil, List.contains_cons, List.contains_nil, cat1, brP_d, true_and, and_true, not_false_eq_true, not_true_eq_false, if_true, if_false, Bool.or_false, Bool.false_or, Bool.or_true, Bool.true_or, Bool.false_eq_true, Bool.or_self, false_implies, true_implies, forall_const, and_self, implies_true, true_or, or_true, or_false, false_or, or_self, Classical.not_not, Int.reduceAdd, Int.reduceSub, Int.reduceMul, Int.reduceNeg, Int.reduceToNat, Int.reduceLT, Int.reduceLE, Int.reduceEq, Int.reduceNe, Int.reduceNatCast', Nat.reduceAdd, Nat.reduceSub, Nat.reduceLeDiff, Nat.reduceLT, Nat.reduceEqDiff, Nat.reduceBEq, reduceIte, nx_w, nx_c, up_n, up_s, up_f, ne_eq, Nat.reduceEqDiff, Option.some.injEq, Prod.mk.injEq, exists_eq_left', reduceCtorEq, ob_43, e18]
  rw [wr_id (x := g 19 4 - g 22 k) (by omega) (by omega), wr_id (x := g 19 4 - g 22 k - g 23 k) (by omega) (by omega)]
  obtain ⟨left, hleft⟩ : ∃ left, g 19 4 - g 22 k - g 23 k = left := ⟨_, rfl⟩
  rw [hleft]
  have lp2 := b2_Model_becomes H w (g 22 k) (g 23 k) n left (by omega) (rtV (acM g h k w)) ?_ (left.toNat + 1) 0 (by omega) (by omega) (by omega)
  · rw [show (0 : Int).toNat = 0 from rfl, cpy_0] at lp2
    exact lp2
  · obtain ⟨H2, hH2⟩ : ∃ H2, cpy H 57 58 (g 22 k + g 23 k).toNat 0 left.toNat = H2 := ⟨_, rfl⟩
    rw [hH2]
    have y : ∀ a, a ≠ 58 → H2 a = H a := fun a ha => by rw [← hH2]; exact cpy_ne ha
    have y58 : ∀ j : Nat, (j : Int) < left → H2 58 j = g 20 ((g 22 k + g 23 k).toNat + j) := fun j hj => by
      rw [← hH2]
      unfold cpy
      rw [if_pos (by omega), e57 _ (by omega)]
      congr 1
    refine go [94] 400 (k := ?_)
    simp (config := {maxSteps := 1000000}) only [↓pI_c, ↓pR_c, ↓pJ_c, ↓pV_c, ↓popN_0, ↓popN_s, ↓lI_0, ↓lR_0, ↓lJ_0, ↓lI_s, ↓lR_s, ↓lJ_s, ↓okSt_0, ↓okSt_I, ↓okSt_R, ↓okSt_N, ↓okSt_s, ↓rtI_s, ↓rtV_n, ↓brP_t, ↓brP_f, ↓sModel_becomes_0, ↓sModel_becomes_1, ↓rf_43_23, ↓sModel_becomes_4, ↓sModel_becomes_5, ↓rf_43_30, ↓sModel_becomes_8, ↓sModel_becomes_9, ↓sModel_becomes_10, ↓sModel_becomes_11, ↓rf_43_24, ↓sModel_becomes_14, ↓sModel_becomes_15, ↓sModel_becomes_18, ↓sModel_becomes_19, ↓sModel_becomes_20, ↓sModel_becomes_21, ↓sModel_becomes_22, ↓sModel_becomes_23, ↓sModel_becomes_24, ↓sModel_becomes_27, ↓sModel_becomes_28, ↓sModel_becomes_30, ↓sModel_becomes_31, ↓rf_43_9, ↓sModel_becomes_34, ↓sModel_becomes_36, ↓sModel_becomes_37, ↓sModel_becomes_38, ↓sModel_becomes_41, ↓sModel_becomes_44, ↓sModel_becomes_47, ↓sModel_becomes_48, ↓rf_43_18, ↓sModel_becomes_51, ↓sModel_becomes_52, ↓sModel_becomes_53, ↓sModel_becomes_54, ↓sModel_becomes_55, ↓sModel_becomes_57, ↓sModel_becomes_58, ↓sModel_becomes_60, ↓sModel_becomes_62, ↓sModel_becomes_64, ↓sModel_becomes_67, ↓sModel_becomes_68, ↓rf_43_20, ↓sModel_becomes_71, ↓sModel_becomes_73, ↓sModel_becomes_74, ↓rf_43_19, ↓sModel_becomes_77, ↓sModel_becomes_78, ↓sModel_becomes_79, ↓sModel_becomes_80, ↓sModel_becomes_82, ↓sModel_becomes_83, ↓sModel_becomes_84, ↓sModel_becomes_85, ↓sModel_becomes_88, ↓sModel_becomes_91, ↓sModel_becomes_92, ↓sModel_becomes_94, ↓sModel_becomes_96, ↓sModel_becomes_97, ↓rf_43_8, ↓sModel_becomes_100, ↓sModel_becomes_102, ↓sModel_becomes_103, ↓sModel_becomes_106, ↓sModel_becomes_107, ↓sModel_becomes_110, ↓sModel_becomes_111, ↓sModel_becomes_113, ↓sModel_becomes_114, ↓sModel_becomes_115, ↓rf_43_7, ↓sModel_becomes_118, ↓sModel_becomes_120, ↓sModel_becomes_122, ↓sModel_becomes_123, ↓sModel_becomes_125, ↓sModel_becomes_126, ↓sModel_becomes_127, ↓sModel_becomes_128, ↓sModel_becomes_131, ↓sModel_becomes_134, ↓sModel_becomes_135, ↓sModel_becomes_136, ↓sModel_becomes_137, ↓sModel_becomes_140, ↓sModel_becomes_142, ↓sModel_becomes_143, ↓sModel_becomes_144, ↓sModel_becomes_146, ↓sModel_becomes_147, ↓sModel_becomes_150, ↓sModel_becomes_151, ↓sModel_becomes_153, ↓sModel_becomes_155, ↓sModel_becomes_157, ↓sModel_becomes_160, ↓sModel_becomes_161, ↓sModel_becomes_164, ↓sModel_becomes_165, ↓sModel_becomes_166, ↓sModel_becomes_169, ↓sModel_becomes_171, ↓sModel_becomes_172, ↓sModel_becomes_173, ↓sModel_becomes_175, ↓sModel_becomes_176, ↓sModel_becomes_177, ↓sModel_becomes_180, ↓sModel_becomes_182, ↓sModel_becomes_183, ↓sModel_becomes_184, ↓sModel_becomes_187, ↓sModel_becomes_190, ↓ln_48, ↓ln_49, ↓ln_50, ↓ln_57, ↓ln_58, ↓ln_59, ↓ln_60, List.set_cons_zero, List.set_cons_succ, List.length_cons, List.length_nil, List.contains_cons, List.contains_nil, cat1, brP_d, true_and, and_true, not_false_eq_true, not_true_eq_false, if_true, if_false, Bool.or_false, Bool.false_or, Bool.or_true, Bool.true_or, Bool.false_eq_true, Bool.or_self, false_implies, true_implies, forall_const, and_self, implies_true, true_or, or_true, or_false, false_or, or_self, Classical.not_not, Int.reduceAdd, Int.reduceSub, Int.reduceMul, Int.reduceNeg, Int.reduceToNat, Int.reduceLT, Int.reduceLE, Int.reduceEq, Int.reduceNe, Int.reduceNatCast', Nat.reduceAdd, Nat.reduceSub, Nat.reduceLeDiff, Nat.reduceLT, Nat.reduceEqDiff, Nat.reduceBEq, reduceIte, nx_w, nx_c, up_n, up_s, up_f, ne_eq, Nat.reduceEqDiff, Option.some.injEq, Prod.mk.injEq, exists_eq_left', reduceCtorEq, ob_43]
    have lp3 := b3_Model_becomes H2 w (g 22 k) (g 23 k) n (g 8 n) left (by omega) (by omega) (by rw [en, y 49 (by decide)]; exact e49) (rtV (acM g h k w)) ?_ ((g 8 n).toNat + 1) 0 (by omega) (by omega) (by omega)
    · rw [show (0 : Int).toNat = 0 from rfl, cpy_0] at lp3
      exact lp3
    · obtain ⟨H3, hH3⟩ : ∃ H3, cpy H2 48 57 (12 * (n : Int)).toNat (g 22 k).toNat (g 8 n).toNat = H3 := ⟨_, rfl⟩
      rw [hH3]
      have z : ∀ a, a ≠ 57 → H3 a = H2 a := fun a ha => by rw [← hH3]; exact cpy_ne ha
      have z49 : H3 49 n = g 8 n := by rw [z 49 (by decide), y 49 (by decide)]; exact e49
      refine go [153] 400 (k := ?_)
      simp (config := {maxSteps := 1000000}) only [↓pI_c, ↓pR_c, ↓pJ_c, ↓pV_c, ↓popN_0, ↓popN_s, ↓lI_0, ↓lR_0, ↓lJ_0, ↓lI_s, ↓lR_s, ↓lJ_s, ↓okSt_0, ↓okSt_I, ↓okSt_R, ↓okSt_N, ↓okSt_s, ↓rtI_s, ↓rtV_n, ↓brP_t, ↓brP_f, ↓sModel_becomes_0, ↓sModel_becomes_1, ↓rf_43_23, ↓sModel_becomes_4, ↓sModel_becomes_5, ↓rf_43_30, ↓sModel_becomes_8, ↓sModel_becomes_9, ↓sModel_becomes_10, ↓sModel_becomes_11, ↓rf_43_24, ↓sModel_becomes_14, ↓sModel_becomes_15, ↓sModel_becomes_18, ↓sModel_becomes_19, ↓sModel_becomes_20, ↓sModel_becomes_21, ↓sModel_becomes_22, ↓sModel_becomes_23, ↓sModel_becomes_24, ↓sModel_becomes_27, ↓sModel_becomes_28, ↓sModel_becomes_30, ↓sModel_becomes_31, ↓rf_43_9, ↓sModel_becomes_34, ↓sModel_becomes_36, ↓sModel_becomes_37, ↓sModel_becomes_38, ↓sModel_becomes_41, ↓sModel_becomes_44, ↓sModel_becomes_47, ↓sModel_becomes_48, ↓rf_43_18, ↓sModel_becomes_51, ↓sModel_becomes_52, ↓sModel_becomes_53, ↓sModel_becomes_54, ↓sModel_becomes_55, ↓sModel_becomes_57, ↓sModel_becomes_58, ↓sModel_becomes_60, ↓sModel_becomes_62, ↓sModel_becomes_64, ↓sModel_becomes_67, ↓sModel_becomes_68, ↓rf_43_20, ↓sModel_becomes_71, ↓sModel_becomes_73, ↓sModel_becomes_74, ↓rf_43_19, ↓sModel_becomes_77, ↓sModel_becomes_78, ↓sModel_becomes_79, ↓sModel_becomes_80, ↓sModel_becomes_82, ↓sModel_becomes_83, ↓sModel_becomes_84, ↓sModel_becomes_85, ↓sModel_becomes_88, ↓sModel_becomes_91, ↓sModel_becomes_92, ↓sModel_becomes_94, ↓sModel_becomes_96, ↓sModel_becomes_97, ↓rf_43_8, ↓sModel_becomes_100, ↓sModel_becomes_102, ↓sModel_becomes_103, ↓sModel_becomes_106, ↓sModel_becomes_107, ↓sModel_becomes_110, ↓sModel_becomes_111, ↓sModel_becomes_113, ↓sModel_becomes_114, ↓sModel_becomes_115, ↓rf_43_7, ↓sModel_becomes_118, ↓sModel_becomes_120, ↓sModel_becomes_122, ↓sModel_becomes_123, ↓sModel_becomes_125, ↓sModel_becomes_126, ↓sModel_becomes_127, ↓sModel_becomes_128, ↓sModel_becomes_131, ↓sModel_becomes_134, ↓sModel_becomes_135, ↓sModel_becomes_136, ↓sModel_becomes_137, ↓sModel_becomes_140, ↓sModel_becomes_142, ↓sModel_becomes_143, ↓sModel_becomes_144, ↓sModel_becomes_146, ↓sModel_becomes_147, ↓sModel_becomes_150, ↓sModel_becomes_151, ↓sModel_becomes_153, ↓sModel_becomes_155, ↓sModel_becomes_157, ↓sModel_becomes_160, ↓sModel_becomes_161, ↓sModel_becomes_164, ↓sModel_becomes_165, ↓sModel_becomes_166, ↓sModel_becomes_169, ↓sModel_becomes_171, ↓sModel_becomes_172, ↓sModel_becomes_173, ↓sModel_becomes_175, ↓sModel_becomes_176, ↓sModel_becomes_177, ↓sModel_becomes_180, ↓sModel_becomes_182, ↓sModel_becomes_183, ↓sModel_becomes_184, ↓sModel_becomes_187, ↓sModel_becomes_190, ↓ln_48, ↓ln_49, ↓ln_50, ↓ln_57, ↓ln_58, ↓ln_59, ↓ln_60, List.set_cons_zero, List.set_cons_succ, List.length_cons, List.length_nil, List.contains_cons, List.contains_nil, cat1, brP_d, true_and, and_true, not_false_eq_true, not_true_eq_false, if_true, if_false, Bool.or_false, Bool.false_or, Bool.or_true, Bool.true_or, Bool.false_eq_true, Bool.or_self, false_implies, true_implies, forall_const, and_self, implies_true, true_or, or_true, or_false, false_or, or_self, Classical.not_not, Int.reduceAdd, Int.reduceSub, Int.reduceMul, Int.reduceNeg, Int.reduceToNat, Int.reduceLT, Int.reduceLE, Int.reduceEq, Int.reduceNe, Int.reduceNatCast', Nat.reduceAdd, Nat.reduceSub, Nat.reduceLeDiff, Nat.reduceLT, Nat.reduceEqDiff, Nat.reduceBEq, reduceIte, nx_w, nx_c, up_n, up_s, up_f, ne_eq, Nat.reduceEqDiff, Option.some.injEq, Prod.mk.injEq, exists_eq_left', reduceCtorEq, ob_43, en, z49]
      rw [wr_id (x := g 22 k + g 8 n) (by omega) (by omega), wr_id (x := g 22 k + g 8 n + left) (by omega) (by omega)]
      have lp4 := b4_Model_becomes (up H3 43 18 (g 22 k + g 8 n + left)) w (g 22 k) (g 23 k) n (g 8 n) left (by omega) (by omega) (by rw [en, up_n (by decide)]; exact z49) (acM g h k w) ?_ (left.toNat + 1) 0 (by omega) (by omega) (by omega)
      · rw [show (0 : Int).toNat = 0 from rfl, cpy_0] at lp4
        exact ⟨by omega, lp4⟩
      · have sz : g 22 k + g 8 n + left = rpS g k n := by unfold rpS; omega
        refine ⟨n, hf, H, hq, fun a a1 a2 a3 => ?_, fun b hb => ?_, ?_, fun j hj => ?_⟩
        · rw [cpy_ne a2, up_ne a1, z a a2, y a a3]
        · rw [cpy_ne (by decide), up_f hb, z 43 (by decide), y 43 (by decide)]
        · rw [cpy_ne (by decide), up_s, sz]
        · rw [← sz] at hj
          unfold rpF
          by_cases c1 : (j : Int) < g 22 k + g 8 n
          · have v : cpy (up H3 43 18 (g 22 k + g 8 n + left)) 58 57 0 (g 22 k + g 8 n).toNat left.toNat 57 j = H3 57 j := by
              unfold cpy
              rw [if_neg (by omega), up_n (by decide)]
            rw [v, ← hH3]
            by_cases c2 : (j : Int) < g 22 k
            · rw [rpl1 c2]
              unfold cpy
              rw [if_neg (by omega), y 57 (by decide), e57 j (by omega)]
            · rw [rpl2 (by omega) c1]
              unfold cpy
              rw [if_pos (by omega), y 48 (by decide), show (12 * (n : Int)).toNat + (j - (g 22 k).toNat) = 12 * n + (j - (g 22 k).toNat) by omega, e48 _ (by omega)]
              omega
          · rw [rpl3 (by omega) (by omega)]
            unfold cpy
            rw [if_pos (by omega), up_n (by decide), z 58 (by decide), y58 _ (by omega)]
            congr 1
            omega
