/-! edits of both sides -/
theorem ty80 {g : HP} (hN : CN g) (hL : CL0 g) {k : Nat} (hk : (k : Int) < g 19 5) : g 23 k ≤ 80 := by
  have hr := hL.2.2.2.1.2.2.1 k hk
  rcases Int.lt_or_le 80 (g 19 4) with z | z
  · obtain ⟨n, n1, n2, _⟩ := hL.2.2.2.2.2 z k hk
    have := (hN.2.2.1 n n1)
    omega
  · omega
def edS (g : HP) (k w : Int) (r : Int) (A : Prop) (B : Nat → Nat → Prop) : Prop := (¬ ((0 ≤ k ∧ k < g 19 5) ∧ 0 ≤ w ∧ w < g 10 4) ∧ r = -2 ∧ A) ∨ (((0 ≤ k ∧ k < g 19 5) ∧ 0 ≤ w ∧ w < g 10 4) ∧ ∃ n : Nat, (n : Int) < g 6 3 ∧ (∃ d, nnP g w k.toNat (g 6 3) n d) ∧ r = dN g k.toNat n ∧ B k.toNat n)
def qEdC (g : HP) (k w r : Int) (h' : HP) : Prop := edS g k w r (h' = g) (fun k n => (∀ a, a ≠ 41 → a ≠ 42 → h' a = g a) ∧ h' 41 3 = g 23 k ∧ h' 41 4 = g 8 n ∧ ∀ i j : Nat, (i : Int) ≤ g 23 k → (j : Int) ≤ g 8 n → h' 42 (13 * i + j) = dE g k n i j)
set_option maxRecDepth 100000 in
set_option maxHeartbeats 4000000 in
theorem t_Help_edits (h : HP) (hC : CI h) (k w : Int) : trI mHelp_edits [.inr (.inr 0), .inl k, .inl w] SH0 h (qEdC h k w) := by
  have hL := hC.2.2.2.2
  have hN := hC.2.1
  have k10 := hL.2.2.2.1.2.1
  have bad : ¬ ((0 ≤ k ∧ k < h 19 5) ∧ 0 ≤ w ∧ w < h 10 4) → qEdC h k w (-2) h := fun z => Or.inl ⟨z, rfl, rfl⟩
  refine startI [some (.inr (.inr 0)), some (.inl k), some (.inl w), none] mHelp_edits_c (go [9999] 400 (k := ?_))
  simp (config := {maxSteps := 1000000}) only [↓pI_c, ↓pR_c, ↓pJ_c, ↓pV_c, ↓popN_0, ↓popN_s, ↓lI_0, ↓lR_0, ↓lJ_0, ↓lI_s, ↓lR_s, ↓lJ_s, ↓okSt_0, ↓okSt_I, ↓okSt_R, ↓okSt_N, ↓okSt_s, ↓rtI_s, ↓rtV_n, ↓brP_t, ↓brP_f, ↓sHelp_edits_0, ↓sHelp_edits_1, ↓sHelp_edits_4, ↓sHelp_edits_5, ↓sHelp_edits_6, ↓rf_0_7, ↓sHelp_edits_9, ↓rf_19_5, ↓sHelp_edits_12, ↓sHelp_edits_15, ↓sHelp_edits_16, ↓sHelp_edits_19, ↓sHelp_edits_20, ↓sHelp_edits_21, ↓rf_0_5, ↓sHelp_edits_24, ↓rf_10_4, ↓sHelp_edits_27, ↓sHelp_edits_30, ↓sHelp_edits_32, ↓sHelp_edits_33, ↓sHelp_edits_34, ↓rf_0_12, ↓sHelp_edits_37, ↓sHelp_edits_38, ↓sHelp_edits_39, ↓sHelp_edits_42, ↓sHelp_edits_43, ↓sHelp_edits_46, ↓sHelp_edits_47, ↓sHelp_edits_48, ↓sHelp_edits_49, ↓sHelp_edits_52, ↓sHelp_edits_54, ↓sHelp_edits_55, ↓sHelp_edits_56, ↓sHelp_edits_59, ↓sHelp_edits_60, ↓sHelp_edits_61, ↓sHelp_edits_64, ↓sHelp_edits_65, ↓sHelp_edits_68, List.set_cons_zero, List.set_cons_succ, List.length_cons, List.length_nil, List.contains_cons, List.contains_nil, cat1, brP_d, true_and, and_true, not_false_eq_true, not_true_eq_false, if_true, if_false, Bool.or_false, Bool.false_or, Bool.or_true, Bool.true_or, Bool.false_eq_true, Bool.or_self, false_implies, true_implies, forall_const, and_self, implies_true, true_or, or_true, or_false, false_or, or_self, Classical.not_not, Int.reduceAdd, Int.reduceSub, Int.reduceMul, Int.reduceNeg, Int.reduceToNat, Int.reduceLT, Int.reduceLE, Int.reduceEq, Int.reduceNe, Int.reduceNatCast', Nat.reduceAdd, Nat.reduceSub, Nat.reduceLeDiff, Nat.reduceLT, Nat.reduceEqDiff, Nat.reduceBEq, reduceIte, nx_w, nx_c, up_n, up_s, up_f, ne_eq, Nat.reduceEqDiff, Option.some.injEq, Prod.mk.injEq, exists_eq_left', reduceCtorEq, ob_28, ob_41]
  refine ⟨fun c1 => bad (by omega), fun c1 => ⟨fun c2 => bad (by omega), fun c2 => ⟨fun c3 => bad (by omega), fun c3 => ⟨fun c4 => ?_, fun c4 => bad (by omega)⟩⟩⟩⟩
  have hty := ty_in hL (k := k.toNat) (by omega)
  have nn := t_Table_nearestName41 h w k.toNat hC.2.2.2.1 hN hty (by omega)
  rw [show ((k.toNat : Nat) : Int) = k by omega] at nn
  refine trI_use nn ?_
  rintro x h1 ⟨f1, f2⟩
  have e : ∀ a, a < 24 → h1 a = h a := fun a ha => f1.1 a (by omega) (by omega)
  have hsm := nn_some hN f2 ⟨by omega, by omega⟩
  refine ⟨fun c5 => ?_, fun c5 => by omega⟩
  obtain ⟨n, rfl⟩ : ∃ n : Nat, x = n := ⟨x.toNat, by omega⟩
  have hn6 : (n : Int) < h 6 3 := by omega
  have fl := t_Table_fill41 h1 k.toNat n (by unfold CS; rw [e 4 (by decide), e 5 (by decide)]; exact hC.2.2.2.1) (tyIn_congr (e 21 (by decide)) (e 22 (by decide)) (e 23 (by decide)) hty) (nmIn_congr (e 7 (by decide)) (e 8 (by decide)) (nm_in hN hn6)) (by omega)
  rw [show ((k.toNat : Nat) : Int) = k by omega] at fl
  refine trI_use fl ?_
  rintro r h2 ⟨⟨g1, g2, g3, g4, g5⟩, rfl⟩
  rw [dN_congr (e 4 (by decide)) (e 5 (by decide)) (e 7 (by decide)) (e 8 (by decide)) (e 21 (by decide)) (e 22 (by decide)) (e 23 (by decide))]
  rw [e 23 (by decide)] at g2 g5
  rw [e 8 (by decide)] at g3 g5
  refine Or.inr ⟨by omega, n, hn6, ⟨_, f2⟩, rfl, fun a a1 a2 => by rw [g1 a a1 a2]; exact f1.1 a a1 a2, g2, g3, fun i j hi hj => ?_⟩
  rw [g5 i j hi hj (by omega)]
  exact dE_congr (e 4 (by decide)) (e 5 (by decide)) (e 7 (by decide)) (e 21 (by decide)) (e 22 (by decide)) _ _ _ _
/-- all that lasts of the reference but the cells of the last edits -/
def ME (h h' : HP) : Prop := MF h h' ∧ ∀ a b, persM a b = true → a ≠ 76 → ¬ (a = 43 ∧ (b = 52 ∨ b = 53)) → h' a b = h a b
def qEdM (g h : HP) (k w r : Int) (h' : HP) : Prop := edS g k w r (MS h h') (fun k n => ME h h' ∧ h' 43 52 = g 23 k ∧ h' 43 53 = g 8 n ∧ ∀ i j : Nat, (i : Int) ≤ g 23 k → (j : Int) ≤ g 8 n → h' 76 (13 * i + j) = dE g k n i j)
set_option maxRecDepth 100000 in
set_option maxHeartbeats 4000000 in
theorem l_Model_edits (H : HP) (k w : Int) (P : Option AV → HP → Prop) (hX : Wn Z4 mModel_edits SH0 84 [some (.inr (.inr 43)), some (.inl k), some (.inl w), some (.inl 1053)] [] (cpy H 65 76 0 0 1053) P) : ∀ (d : Nat) (i : Int), 1053 - i < d → 0 ≤ i → i ≤ 1053 → Wn Z4 mModel_edits SH0 59 [some (.inr (.inr 43)), some (.inl k), some (.inl w), some (.inl i)] [] (cpy H 65 76 0 0 i.toNat) P := by
  have f65 : ∀ m, cpy H 65 76 0 0 m 65 = H 65 := fun m => cpy_ne (by decide)
  intro d
  induction d with
  | zero => intro i q1 q2 q3; omega
  | succ d ih =>
    intro i q1 q2 q3
    refine go [59,84] 400 (k := ?_)
    simp (config := {maxSteps := 1000000}) only [↓pI_c, ↓pR_c, ↓pJ_c, ↓pV_c, ↓popN_0, ↓popN_s, ↓lI_0, ↓lR_0, ↓lJ_0, ↓lI_s, ↓lR_s, ↓lJ_s, ↓okSt_0, ↓okSt_I, ↓okSt_R, ↓okSt_N, ↓okSt_s, ↓rtI_s, ↓rtV_n, ↓brP_t, ↓brP_f, ↓sModel_edits_0, ↓sModel_edits_1, ↓sModel_edits_2, ↓rf_43_0, ↓sModel_edits_5, ↓sModel_edits_6, ↓sModel_edits_9, ↓sModel_edits_10, ↓sModel_edits_11, ↓sModel_edits_12, ↓rf_43_22, ↓sModel_edits_15, ↓sModel_edits_16, ↓sModel_edits_17, ↓sModel_edits_20, ↓sModel_edits_23, ↓sModel_edits_24, ↓sModel_edits_25, ↓sModel_edits_26, ↓rf_43_1, ↓sModel_edits_29, ↓sModel_edits_30, ↓sModel_edits_31, ↓sModel_edits_34, ↓sModel_edits_37, ↓sModel_edits_39, ↓sModel_edits_40, ↓sModel_edits_41, ↓sModel_edits_42, ↓rf_43_23, ↓sModel_edits_45, ↓sModel_edits_46, ↓sModel_edits_47, ↓sModel_edits_48, ↓rf_43_24, ↓sModel_edits_51, ↓sModel_edits_52, ↓sModel_edits_53, ↓sModel_edits_54, ↓sModel_edits_57, ↓sModel_edits_58, ↓sModel_edits_59, ↓sModel_edits_60, ↓sModel_edits_63, ↓sModel_edits_66, ↓sModel_edits_67, ↓rf_43_51, ↓sModel_edits_70, ↓sModel_edits_71, ↓sModel_edits_72, ↓rf_43_32, ↓sModel_edits_75, ↓sModel_edits_76, ↓sModel_edits_77, ↓sModel_edits_78, ↓sModel_edits_81, ↓sModel_edits_84, ↓sModel_edits_85, ↓sModel_edits_86, ↓sModel_edits_89, ↓sModel_edits_90, ↓sModel_edits_91, ↓rf_43_52, ↓sModel_edits_94, ↓sModel_edits_95, ↓sModel_edits_96, ↓rf_43_8, ↓sModel_edits_99, ↓sModel_edits_100, ↓rf_43_33, ↓sModel_edits_103, ↓sModel_edits_104, ↓rf_43_53, ↓sModel_edits_107, ↓sModel_edits_108, ↓rf_43_34, ↓sModel_edits_111, ↓ln_49, ↓ln_59, ↓ln_60, ↓ln_65, ↓ln_76, List.set_cons_zero, List.set_cons_succ, List.length_cons, List.length_nil, List.contains_cons, List.contains_nil, cat1, brP_d, true_and, and_true, not_false_eq_true, not_true_eq_false, if_true, if_false, Bool.or_false, Bool.false_or, Bool.or_true, Bool.true_or, Bool.false_eq_true, Bool.or_self, false_implies, true_implies, forall_const, and_self, implies_true, true_or, or_true, or_false, false_or, or_self, Classical.not_not, Int.reduceAdd, Int.reduceSub, Int.reduceMul, Int.reduceNeg, Int.reduceToNat, Int.reduceLT, Int.reduceLE, Int.reduceEq, Int.reduceNe, Int.reduceNatCast', Nat.reduceAdd, Nat.reduceSub, Nat.reduceLeDiff, Nat.reduceLT, Nat.reduceEqDiff, Nat.reduceBEq, reduceIte, nx_w, nx_c, up_n, up_s, up_f, ne_eq, Nat.reduceEqDiff, Option.some.injEq, Prod.mk.injEq, exists_eq_left', reduceCtorEq, ob_43, f65]
    refine ⟨fun c1 => ?_, fun c1 => ?_⟩
    · obtain rfl : i = 1053 := by omega
      exact hX
    · rw [wr_id (x := i + 1) (by omega) (by omega)]
      have := ih (i + 1) (by omega) (by omega) (by omega)
      rw [show (i + 1).toNat = i.toNat + 1 by omega, ← cpy_s, Nat.zero_add] at this
      exact ⟨by omega, by omega, this⟩
set_option maxRecDepth 100000 in
set_option maxHeartbeats 4000000 in
theorem t_Model_edits (g h : HP) (hC : CI g) (hm : CM g h) (k w : Int) : trI mModel_edits [.inr (.inr 43), .inl k, .inl w] SH0 h (qEdM g h k w) := by
  have hL := hC.2.2.2.2
  have hN := hC.2.1
  have k10 := hL.2.2.2.1.2.1
  have k0 := hL.2.2.2.1.1
  have h60 := hC.1.2.1
  have h0w := hC.1.1
  refine startI [some (.inr (.inr 43)), some (.inl k), some (.inl w), none] mModel_edits_c (go [59] 400 (k := ?_))
  simp (config := {maxSteps := 1000000}) only [↓pI_c, ↓pR_c, ↓pJ_c, ↓pV_c, ↓popN_0, ↓popN_s, ↓lI_0, ↓lR_0, ↓lJ_0, ↓lI_s, ↓lR_s, ↓lJ_s, ↓okSt_0, ↓okSt_I, ↓okSt_R, ↓okSt_N, ↓okSt_s, ↓rtI_s, ↓rtV_n, ↓brP_t, ↓brP_f, ↓sModel_edits_0, ↓sModel_edits_1, ↓sModel_edits_2, ↓rf_43_0, ↓sModel_edits_5, ↓sModel_edits_6, ↓sModel_edits_9, ↓sModel_edits_10, ↓sModel_edits_11, ↓sModel_edits_12, ↓rf_43_22, ↓sModel_edits_15, ↓sModel_edits_16, ↓sModel_edits_17, ↓sModel_edits_20, ↓sModel_edits_23, ↓sModel_edits_24, ↓sModel_edits_25, ↓sModel_edits_26, ↓rf_43_1, ↓sModel_edits_29, ↓sModel_edits_30, ↓sModel_edits_31, ↓sModel_edits_34, ↓sModel_edits_37, ↓sModel_edits_39, ↓sModel_edits_40, ↓sModel_edits_41, ↓sModel_edits_42, ↓rf_43_23, ↓sModel_edits_45, ↓sModel_edits_46, ↓sModel_edits_47, ↓sModel_edits_48, ↓rf_43_24, ↓sModel_edits_51, ↓sModel_edits_52, ↓sModel_edits_53, ↓sModel_edits_54, ↓sModel_edits_57, ↓sModel_edits_58, ↓sModel_edits_59, ↓sModel_edits_60, ↓sModel_edits_63, ↓sModel_edits_66, ↓sModel_edits_67, ↓rf_43_51, ↓sModel_edits_70, ↓sModel_edits_71, ↓sModel_edits_72, ↓rf_43_32, ↓sModel_edits_75, ↓sModel_edits_76, ↓sModel_edits_77, ↓sModel_edits_78, ↓sModel_edits_81, ↓sModel_edits_84, ↓sModel_edits_85, ↓sModel_edits_86, ↓sModel_edits_89, ↓sModel_edits_90, ↓sModel_edits_91, ↓rf_43_52, ↓sModel_edits_94, ↓sModel_edits_95, ↓sModel_edits_96, ↓rf_43_8, ↓sModel_edits_99, ↓sModel_edits_100, ↓rf_43_33, ↓sModel_edits_103, ↓sModel_edits_104, ↓rf_43_53, ↓sModel_edits_107, ↓sModel_edits_108, ↓rf_43_34, ↓sModel_edits_111, ↓ln_49, ↓ln_59, ↓ln_60, ↓ln_65, ↓ln_76, List.set_cons_zero, List.set_cons_succ, List.length_cons, List.length_nil, List.contains_cons, List.contains_nil, cat1, brP_d, true_and, and_true, not_false_eq_true, not_true_eq_false, if_true, if_false, Bool.or_false, Bool.false_or, Bool.or_true, Bool.true_or, Bool.false_eq_true, Bool.or_self, false_implies, true_implies, forall_const, and_self, implies_true, true_or, or_true, or_false, false_or, or_self, Classical.not_not, Int.reduceAdd, Int.reduceSub, Int.reduceMul, Int.reduceNeg, Int.reduceToNat, Int.reduceLT, Int.reduceLE, Int.reduceEq, Int.reduceNe, Int.reduceNatCast', Nat.reduceAdd, Nat.reduceSub, Nat.reduceLeDiff, Nat.reduceLT, Nat.reduceEqDiff, Nat.reduceBEq, reduceIte, nx_w, nx_c, up_n, up_s, up_f, ne_eq, Nat.reduceEqDiff, Option.some.injEq, Prod.mk.injEq, exists_eq_left', reduceCtorEq, ob_43]
  refine trV_use (t_Model_partG g _ hC (hm.ms msu0)) ?_
  rintro h1 ⟨p1, p2, p3⟩
  have hms : MS h h1 := msu0.tr (MS.prF p1)
  have hm1 := hm.ms hms
  have e1 : h1 43 1 = g 10 4 := hm1.1.1
  rw [p2, wr_id (x := g 19 5 - 1) (by omega) (by omega)]
  refine use_in (fun e2 => ?_) (fun e2 => ?_)
  · simp only [one_ne, not_false_eq_true, true_implies, false_implies, true_and, and_true]
    rw [e1, wr_id (x := g 10 4 - 1) (by omega) (by omega)]
    refine use_in (fun e3 => ?_) (fun e3 => ?_)
    · simp only [one_ne, not_false_eq_true, true_implies, false_implies, true_and, and_true]
      have hk5 : (k.toNat : Int) < g 19 5 := by omega
      obtain ⟨e59, e60, _⟩ := p3 k.toNat hk5
      have h80 := ty80 hN hL hk5
      rw [e59, e60]
      refine ⟨by omega, by omega, trV_use (t_Model_nearest g h1 w k.toNat hC hm1 hk5 h80) ?_⟩
      rintro h2 ⟨n1, n2, n3⟩
      have hsm := nn_some hN n2 ⟨by omega, by omega⟩
      have hm2 := hm1.ms (MS.nr n1)
      have lp := l_Model_edits h2 k w (rtI (qEdM g h k w)) ?_ 1054 0 (by omega) (by omega) (by omega)
      · rw [show (0 : Int).toNat = 0 from rfl, cpy_0] at lp
        exact lp
      · obtain ⟨n, hn⟩ : ∃ n : Nat, h2 43 33 = n := ⟨(h2 43 33).toNat, by omega⟩
        have hn6 : (n : Int) < g 6 3 := by omega
        have b1 := nm_in hN hn6
        have f : ∀ a, a ≠ 76 → cpy h2 65 76 0 0 1053 a = h2 a := fun a ha => cpy_ne ha
        have en : ((n : Int)).toNat = n := by omega
        have f49 : h2 49 n = g 8 n := (hm2.2.1.2 n hn6).1
        have f60 : h2 60 k.toNat = g 23 k.toNat := by rw [n1.1 60 (by decide) (by decide) (by decide)]; exact e60
        have hb := b1.1
        refine go [9999] 400 (k := ?_)
        simp (config := {maxSteps := 1000000}) only [↓pI_c, ↓pR_c, ↓pJ_c, ↓pV_c, ↓popN_0, ↓popN_s, ↓lI_0, ↓lR_0, ↓lJ_0, ↓lI_s, ↓lR_s, ↓lJ_s, ↓okSt_0, ↓okSt_I, ↓okSt_R, ↓okSt_N, ↓okSt_s, ↓rtI_s, ↓rtV_n, ↓brP_t, ↓brP_f, ↓sModel_edits_0, ↓sModel_edits_1, ↓sModel_edits_2, ↓rf_43_0, ↓sModel_edits_5, ↓sModel_edits_6, ↓sModel_edits_9, ↓sModel_edits_10, ↓sModel_edits_11, ↓sModel_edits_12, ↓rf_43_22, ↓sModel_edits_15, ↓sModel_edits_16, ↓sModel_edits_17, ↓sModel_edits_20, ↓sModel_edits_23, ↓sModel_edits_24, ↓sModel_edits_25, ↓sModel_edits_26, ↓rf_43_1, ↓sModel_edits_29, ↓sModel_edits_30, ↓sModel_edits_31, ↓sModel_edits_34, ↓sModel_edits_37, ↓sModel_edits_39, ↓sModel_edits_40, ↓sModel_edits_41, ↓sModel_edits_42, ↓rf_43_23, ↓sModel_edits_45, ↓sModel_edits_46, ↓sModel_edits_47, ↓sModel_edits_48, ↓rf_43_24, ↓sModel_edits_51, ↓sModel_edits_52, ↓sModel_edits_53, ↓sModel_edits_54, ↓sModel_edits_57, ↓sModel_edits_58, ↓sModel_edits_59, ↓sModel_edits_60, ↓sModel_edits_63, ↓sModel_edits_66, ↓sModel_edits_67, ↓rf_43_51, ↓sModel_edits_70, ↓sModel_edits_71, ↓sModel_edits_72, ↓rf_43_32, ↓sModel_edits_75, ↓sModel_edits_76, ↓sModel_edits_77, ↓sModel_edits_78, ↓sModel_edits_81, ↓sModel_edits_84, ↓sModel_edits_85, ↓sModel_edits_86, ↓sModel_edits_89, ↓sModel_edits_90, ↓sModel_edits_91, ↓rf_43_52, ↓sModel_edits_94, ↓sModel_edits_95, ↓sModel_edits_96, ↓rf_43_8, ↓sModel_edits_99, ↓sModel_edits_100, ↓rf_43_33, ↓sModel_edits_103, ↓sModel_edits_104, ↓rf_43_53, ↓sModel_edits_107, ↓sModel_edits_108, ↓rf_43_34, ↓sModel_edits_111, ↓ln_49, ↓ln_59, ↓ln_60, ↓ln_65, ↓ln_76, List.set_cons_zero, List.set_cons_succ, List.length_cons, List.length_nil, List.contains_cons, List.contains_nil, cat1, brP_d, true_and, and_true, not_false_eq_true, not_true_eq_false, if_true, if_false, Bool.or_false, Bool.false_or, Bool.or_true, Bool.true_or, Bool.false_eq_true, Bool.or_self, false_implies, true_implies, forall_const, and_self, implies_true, true_or, or_true, or_false, false_or, or_self, Classical.not_not, Int.reduceAdd, Int.reduceSub, Int.reduceMul, Int.reduceNeg, Int.reduceToNat, Int.reduceLT, Int.reduceLE, Int.reduceEq, Int.reduceNe, Int.reduceNatCast', Nat.reduceAdd, Nat.reduceSub, Nat.reduceLeDiff, Nat.reduceLT, Nat.reduceEqDiff, Nat.reduceBEq, reduceIte, nx_w, nx_c, up_n, up_s, up_f, ne_eq, Nat.reduceEqDiff, Option.some.injEq, Prod.mk.injEq, exists_eq_left', reduceCtorEq, ob_43, f 43 (by decide), f 49 (by decide), f 60 (by decide), hn, en, f49, f60]
        have hmT : MS h h2 := hms.tr (MS.nr n1)
        unfold tbM at n3
        rw [hn] at n2 n3
        have ed : h2 43 34 = dN g k.toNat n := by
          have := hsm.2.2
          rw [← hsm.2.1, hn, en] at this
          exact this
        rw [ed]
        refine ⟨by omega, by omega, Or.inr ⟨by omega, n, hn6, ⟨_, n2⟩, rfl, ⟨⟨fun a ha => ?_, fun a b c1 c2 c3 => ?_⟩, ?_, ?_, fun i j hi hj => ?_⟩⟩⟩
        · rw [up_ne (by omega), up_ne (by omega), f a (by omega)]
          exact hmT.1 a ha
        · by_cases z : a = 43
          · subst z
            rw [up_f (by omega), up_f (by omega), f 43 (by decide)]
            exact hmT.2 43 b c1
          · rw [up_ne z, up_ne z, f a c2]
            exact hmT.2 a b c1
        · rw [up_f (by decide), up_s]
        · rw [up_s]
        · rw [up_n (by decide), up_n (by decide)]
          unfold cpy
          have := n3 (by omega) i j hi (by rw [en]; exact hj)
          rw [en] at this
          rw [if_pos (by omega), Nat.zero_add, Nat.sub_zero]
          exact this
    · simp only [not_true_eq_false, true_implies, false_implies, true_and, and_true]
      exact Or.inl ⟨by omega, rfl, hms⟩
  · simp only [not_true_eq_false, true_implies, false_implies, true_and, and_true]
    exact Or.inl ⟨by omega, rfl, hms⟩
