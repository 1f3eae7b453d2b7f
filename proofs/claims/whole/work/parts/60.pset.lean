/-! pairs of calls: feed, scope, danger, classes, rule, token, setting, near -/
theorem p_feed {g : HP} (hI : IV g) (n : Int) (hn : inR n) (w : Int64) : PR mHelp_feed mModel_feed [.inr (.inr 0), .inl n, .inr (.inl (w))] [.inr (.inr 43), .inl n, .inr (.inl (w))] g := by
  obtain ⟨t1, t2, t3, t4⟩ := hI.1
  refine ⟨_, t_Help_feed g n w hn ⟨t1, t2⟩, fun r h1 hq => ?_⟩
  have s1 : SF [1] g h1 ∧ h1 43 = g 43 ∧ h1 56 = g 56 := by
    rcases hq with ⟨_, _, rfl⟩ | ⟨_, _, _, rfl⟩ | ⟨_, _, _, a1, a2, a3⟩
    · exact ⟨SF.rf, rfl, rfl⟩
    · exact ⟨SF.rf, rfl, rfl⟩
    · refine ⟨fun a b p q => a2 a b ?_ ?_, funext fun b => a2 43 b (by omega) (by omega), funext fun b => a2 56 b (by omega) (by omega)⟩
      · rintro ⟨rfl, rfl⟩
        exact q (by decide)
      · rintro ⟨rfl, _⟩
        exact q (by show (1 : Nat) ∈ [1]; decide)
  obtain ⟨s1, s2, s3⟩ := s1
  refine ⟨_, t_Model_feed h1 n w hn (by rw [s2, t3]; exact ⟨t1, t2⟩), fun r' h2 hq' => ?_⟩
  have e16 : up h1 43 0 0 43 16 = g 0 1 := by rw [up_f (by decide), s2]; exact t3
  have s4 : SF [1] h1 h2 := by
    rcases hq' with ⟨_, _, rfl⟩ | ⟨_, _, _, rfl⟩ | ⟨_, _, _, a1, a2, a3⟩
    · exact SF.rf.up (Or.inl rfl)
    · exact SF.rf.up (Or.inl rfl)
    · refine (SF.up (k := 43) (j := 0) (x := 0) SF.rf (Or.inl rfl)).tr (fun a b p q => a2 a b ?_ ?_)
      · rintro ⟨rfl, rfl⟩
        exact q (by decide)
      · rintro ⟨rfl, _⟩
        exact q (by show (1 : Nat) ∈ [1]; decide)
  unfold qFeed at hq'
  rw [e16] at hq'
  have same : r = r' ∧ ITape h2 := by
    rcases hq with ⟨c1, rfl, rfl⟩ | ⟨c1, c2, rfl, rfl⟩ | ⟨c1, c2, rfl, a1, a2, a3⟩
    · rcases hq' with ⟨d1, rfl, rfl⟩ | ⟨d1, d2, rfl, rfl⟩ | ⟨d1, d2, rfl, b1, b2', b3⟩
      · exact ⟨rfl, Stape_c (fun a b e => up_off (by rintro ⟨rfl, rfl⟩; exact absurd e (by decide))) hI.1⟩
      · omega
      · omega
    · rcases hq' with ⟨d1, rfl, rfl⟩ | ⟨d1, d2, rfl, rfl⟩ | ⟨d1, d2, rfl, b1, b2', b3⟩
      · omega
      · exact ⟨rfl, Stape_c (fun a b e => up_off (by rintro ⟨rfl, rfl⟩; exact absurd e (by decide))) hI.1⟩
      · omega
    · rcases hq' with ⟨d1, rfl, rfl⟩ | ⟨d1, d2, rfl, rfl⟩ | ⟨d1, d2, rfl, b1, b2', b3⟩
      · omega
      · omega
      · have e0 : h2 0 1 = g 0 1 + n := by rw [b2' 0 1 (by omega) (by omega), up_n (by decide)]; exact a1
        refine ⟨rfl, ?_⟩
        unfold ITape
        rw [e0, b1]
        refine ⟨by omega, by omega, rfl, fun j hj => ?_⟩
        have e1 : h2 1 j = h1 1 j := by rw [b2' 1 j (by omega) (by omega), up_n (by decide)]
        rw [e1]
        by_cases z : (j : Int) < g 0 1
        · rw [a2 1 j (by omega) (by omega), b2' 56 j (by omega) (by omega), up_n (by decide), s3]
          exact t4 j z
        · obtain ⟨d, rfl⟩ : ∃ d : Nat, j = (g 0 1).toNat + d := ⟨j - (g 0 1).toNat, by omega⟩
          rw [a3 d (by omega), b3 d (by omega)]
          obtain ⟨y1, y2, y3⟩ := byte_ok w (n - 1 - d) (by omega) (by omega)
          rw [y1]
          exact ⟨rfl, y2, y3⟩
  exact ⟨same.1, IV_of hI (s1.tr s4) (fun _ => same.2) (fun z => absurd z (by decide)) (fun z => absurd z (by decide)) (fun z => absurd z (by decide)) (fun z => absurd z (by decide)) (fun z => absurd z (by decide)) (fun z => absurd z (by decide)) (fun z => absurd z (by decide))⟩
theorem isKM {g h : HP} (hw : CMW g h) {w k : Int} : isM h w k ↔ isK g w k := by
  unfold isM isK
  rw [hw.1]
  constructor
  · rintro ⟨z1, z2, z3⟩
    exact ⟨z1, z2, by rw [← (hw.2 w.toNat (by omega)).1]; exact z3⟩
  · rintro ⟨z1, z2, z3⟩
    exact ⟨z1, z2, by rw [(hw.2 w.toNat (by omega)).1]; exact z3⟩
set_option maxRecDepth 100000 in
set_option maxHeartbeats 4000000 in
theorem n_Help_scope (h : HP) (w on : Int) (hw : h 10 4 ≤ 60) (hn : ¬ isK h w 1) : trI mHelp_scope [.inr (.inr 0), .inl w, .inl on] SH0 h (qSet (isK h w 1) (h 13 w.toNat) (up h 13 w.toNat on) h) := by
  refine startI [some (.inr (.inr 0)), some (.inl w), some (.inl on), none] mHelp_scope_c (go [9999] 400 (k := ?_))
  simp (config := {maxSteps := 1000000}) only [↓pI_c, ↓pR_c, ↓pJ_c, ↓pV_c, ↓popN_0, ↓popN_s, ↓lI_0, ↓lR_0, ↓lJ_0, ↓lI_s, ↓lR_s, ↓lJ_s, ↓okSt_0, ↓okSt_I, ↓okSt_R, ↓okSt_N, ↓okSt_s, ↓rtI_s, ↓rtV_n, ↓brP_t, ↓brP_f, ↓sHelp_scope_0, ↓sHelp_scope_1, ↓rf_0_5, ↓sHelp_scope_4, ↓sHelp_scope_5, ↓sHelp_scope_6, ↓sHelp_scope_9, ↓sHelp_scope_12, ↓sHelp_scope_14, ↓sHelp_scope_15, ↓sHelp_scope_16, ↓sHelp_scope_19, ↓rf_10_2, ↓sHelp_scope_22, ↓sHelp_scope_23, ↓sHelp_scope_24, ↓sHelp_scope_27, ↓sHelp_scope_28, ↓sHelp_scope_31, ↓sHelp_scope_32, ↓sHelp_scope_33, ↓sHelp_scope_34, ↓sHelp_scope_37, ↓sHelp_scope_40, ↓sHelp_scope_41, ↓sHelp_scope_42, ↓sHelp_scope_43, ↓sHelp_scope_44, ↓ln_13, List.set_cons_zero, List.set_cons_succ, List.length_cons, List.length_nil, List.contains_cons, List.contains_nil, cat1, brP_d, true_and, and_true, not_false_eq_true, not_true_eq_false, if_true, if_false, Bool.or_false, Bool.false_or, Bool.or_true, Bool.true_or, Bool.false_eq_true, Bool.or_self, false_implies, true_implies, forall_const, and_self, implies_true, true_or, or_true, or_false, false_or, or_self, Classical.not_not, Int.reduceAdd, Int.reduceSub, Int.reduceMul, Int.reduceNeg, Int.reduceToNat, Int.reduceLT, Int.reduceLE, Int.reduceEq, Int.reduceNe, Int.reduceNatCast', Nat.reduceAdd, Nat.reduceSub, Nat.reduceLeDiff, Nat.reduceLT, Nat.reduceEqDiff, Nat.reduceBEq, reduceIte, nx_w, nx_c, up_n, up_s, up_f, ne_eq, Nat.reduceEqDiff, Option.some.injEq, Prod.mk.injEq, exists_eq_left', reduceCtorEq, ob_10]
  refine use_p (t_Words_isOf h w 1 hw) ?_
  grind [b2, qSet, isK]
set_option maxRecDepth 100000 in
set_option maxHeartbeats 4000000 in
theorem n_Help_danger (h : HP) (w on : Int) (hw : h 10 4 ≤ 60) (hn : ¬ isK h w 0) : trI mHelp_danger [.inr (.inr 0), .inl w, .inl on] SH0 h (qSet (isK h w 0) (h 14 w.toNat) (up h 14 w.toNat on) h) := by
  refine startI [some (.inr (.inr 0)), some (.inl w), some (.inl on), none] mHelp_danger_c (go [9999] 400 (k := ?_))
  simp (config := {maxSteps := 1000000}) only [↓pI_c, ↓pR_c, ↓pJ_c, ↓pV_c, ↓popN_0, ↓popN_s, ↓lI_0, ↓lR_0, ↓lJ_0, ↓lI_s, ↓lR_s, ↓lJ_s, ↓okSt_0, ↓okSt_I, ↓okSt_R, ↓okSt_N, ↓okSt_s, ↓rtI_s, ↓rtV_n, ↓brP_t, ↓brP_f, ↓sHelp_danger_0, ↓sHelp_danger_1, ↓rf_0_5, ↓sHelp_danger_4, ↓sHelp_danger_5, ↓sHelp_danger_6, ↓sHelp_danger_9, ↓sHelp_danger_12, ↓sHelp_danger_14, ↓sHelp_danger_15, ↓sHelp_danger_16, ↓sHelp_danger_19, ↓rf_10_3, ↓sHelp_danger_22, ↓sHelp_danger_23, ↓sHelp_danger_24, ↓sHelp_danger_27, ↓sHelp_danger_28, ↓sHelp_danger_31, ↓sHelp_danger_32, ↓sHelp_danger_33, ↓sHelp_danger_34, ↓sHelp_danger_37, ↓sHelp_danger_40, ↓sHelp_danger_41, ↓sHelp_danger_42, ↓sHelp_danger_43, ↓sHelp_danger_44, ↓ln_14, List.set_cons_zero, List.set_cons_succ, List.length_cons, List.length_nil, List.contains_cons, List.contains_nil, cat1, brP_d, true_and, and_true, not_false_eq_true, not_true_eq_false, if_true, if_false, Bool.or_false, Bool.false_or, Bool.or_true, Bool.true_or, Bool.false_eq_true, Bool.or_self, false_implies, true_implies, forall_const, and_self, implies_true, true_or, or_true, or_false, false_or, or_self, Classical.not_not, Int.reduceAdd, Int.reduceSub, Int.reduceMul, Int.reduceNeg, Int.reduceToNat, Int.reduceLT, Int.reduceLE, Int.reduceEq, Int.reduceNe, Int.reduceNatCast', Nat.reduceAdd, Nat.reduceSub, Nat.reduceLeDiff, Nat.reduceLT, Nat.reduceEqDiff, Nat.reduceBEq, reduceIte, nx_w, nx_c, up_n, up_s, up_f, ne_eq, Nat.reduceEqDiff, Option.some.injEq, Prod.mk.injEq, exists_eq_left', reduceCtorEq, ob_10]
  refine use_p (t_Words_isOf h w 0 hw) ?_
  grind [b2, qSet, isK]
set_option maxRecDepth 100000 in
set_option maxHeartbeats 4000000 in
theorem n_Model_scope (h : HP) (w on : Int) (hw : 0 ≤ h 43 1 ∧ h 43 1 ≤ 60) (hn : ¬ isM h w 1) : trI mModel_scope [.inr (.inr 43), .inl w, .inl on] SH0 h (qSet (isM h w 1) (h 45 w.toNat) (up (up h 43 0 0) 45 w.toNat on) (up h 43 0 0)) := by
  refine startI [some (.inr (.inr 43)), some (.inl w), some (.inl on), none] mModel_scope_c (go [9999] 400 (k := ?_))
  simp (config := {maxSteps := 1000000}) only [↓pI_c, ↓pR_c, ↓pJ_c, ↓pV_c, ↓popN_0, ↓popN_s, ↓lI_0, ↓lR_0, ↓lJ_0, ↓lI_s, ↓lR_s, ↓lJ_s, ↓okSt_0, ↓okSt_I, ↓okSt_R, ↓okSt_N, ↓okSt_s, ↓rtI_s, ↓rtV_n, ↓brP_t, ↓brP_f, ↓sModel_scope_0, ↓sModel_scope_1, ↓sModel_scope_2, ↓rf_43_0, ↓sModel_scope_5, ↓sModel_scope_6, ↓sModel_scope_7, ↓sModel_scope_8, ↓sModel_scope_11, ↓sModel_scope_14, ↓sModel_scope_16, ↓sModel_scope_17, ↓sModel_scope_18, ↓rf_43_3, ↓sModel_scope_21, ↓sModel_scope_22, ↓sModel_scope_23, ↓sModel_scope_26, ↓sModel_scope_27, ↓sModel_scope_30, ↓sModel_scope_31, ↓sModel_scope_32, ↓sModel_scope_33, ↓sModel_scope_36, ↓sModel_scope_37, ↓sModel_scope_38, ↓sModel_scope_39, ↓sModel_scope_40, ↓ln_45, List.set_cons_zero, List.set_cons_succ, List.length_cons, List.length_nil, List.contains_cons, List.contains_nil, cat1, brP_d, true_and, and_true, not_false_eq_true, not_true_eq_false, if_true, if_false, Bool.or_false, Bool.false_or, Bool.or_true, Bool.true_or, Bool.false_eq_true, Bool.or_self, false_implies, true_implies, forall_const, and_self, implies_true, true_or, or_true, or_false, false_or, or_self, Classical.not_not, Int.reduceAdd, Int.reduceSub, Int.reduceMul, Int.reduceNeg, Int.reduceToNat, Int.reduceLT, Int.reduceLE, Int.reduceEq, Int.reduceNe, Int.reduceNatCast', Nat.reduceAdd, Nat.reduceSub, Nat.reduceLeDiff, Nat.reduceLT, Nat.reduceEqDiff, Nat.reduceBEq, reduceIte, nx_w, nx_c, up_n, up_s, up_f, ne_eq, Nat.reduceEqDiff, Option.some.injEq, Prod.mk.injEq, exists_eq_left', reduceCtorEq, ob_43]
  refine use_p (t_Model_is _ w 1 (by simpa only [up_f, ne_eq, Nat.reduceEqDiff, not_false_eq_true] using hw)) ?_
  simp only [up_n, up_f, ne_eq, Nat.reduceEqDiff, not_false_eq_true]
  grind [b2, qSet, isM]
set_option maxRecDepth 100000 in
set_option maxHeartbeats 4000000 in
theorem n_Model_danger (h : HP) (w on : Int) (hw : 0 ≤ h 43 1 ∧ h 43 1 ≤ 60) (hn : ¬ isM h w 0) : trI mModel_danger [.inr (.inr 43), .inl w, .inl on] SH0 h (qSet (isM h w 0) (h 46 w.toNat) (up (up h 43 0 0) 46 w.toNat on) (up h 43 0 0)) := by
  refine startI [some (.inr (.inr 43)), some (.inl w), some (.inl on), none] mModel_danger_c (go [9999] 400 (k := ?_))
  simp (config := {maxSteps := 1000000}) only [↓pI_c, ↓pR_c, ↓pJ_c, ↓pV_c, ↓popN_0, ↓popN_s, ↓lI_0, ↓lR_0, ↓lJ_0, ↓lI_s, ↓lR_s, ↓lJ_s, ↓okSt_0, ↓okSt_I, ↓okSt_R, ↓okSt_N, ↓okSt_s, ↓rtI_s, ↓rtV_n, ↓brP_t, ↓brP_f, ↓sModel_danger_0, ↓sModel_danger_1, ↓sModel_danger_2, ↓rf_43_0, ↓sModel_danger_5, ↓sModel_danger_6, ↓sModel_danger_7, ↓sModel_danger_8, ↓sModel_danger_11, ↓sModel_danger_14, ↓sModel_danger_16, ↓sModel_danger_17, ↓sModel_danger_18, ↓rf_43_4, ↓sModel_danger_21, ↓sModel_danger_22, ↓sModel_danger_23, ↓sModel_danger_26, ↓sModel_danger_27, ↓sModel_danger_30, ↓sModel_danger_31, ↓sModel_danger_32, ↓sModel_danger_33, ↓sModel_danger_36, ↓sModel_danger_37, ↓sModel_danger_38, ↓sModel_danger_39, ↓sModel_danger_40, ↓ln_46, List.set_cons_zero, List.set_cons_succ, List.length_cons, List.length_nil, List.contains_cons, List.contains_nil, cat1, brP_d, true_and, and_true, not_false_eq_true, not_true_eq_false, if_true, if_false, Bool.or_false, Bool.false_or, Bool.or_true, Bool.true_or, Bool.false_eq_true, Bool.or_self, false_implies, true_implies, forall_const, and_self, implies_true, true_or, or_true, or_false, false_or, or_self, Classical.not_not, Int.reduceAdd, Int.reduceSub, Int.reduceMul, Int.reduceNeg, Int.reduceToNat, Int.reduceLT, Int.reduceLE, Int.reduceEq, Int.reduceNe, Int.reduceNatCast', Nat.reduceAdd, Nat.reduceSub, Nat.reduceLeDiff, Nat.reduceLT, Nat.reduceEqDiff, Nat.reduceBEq, reduceIte, nx_w, nx_c, up_n, up_s, up_f, ne_eq, Nat.reduceEqDiff, Option.some.injEq, Prod.mk.injEq, exists_eq_left', reduceCtorEq, ob_43]
  refine use_p (t_Model_is _ w 0 (by simpa only [up_f, ne_eq, Nat.reduceEqDiff, not_false_eq_true] using hw)) ?_
  simp only [up_n, up_f, ne_eq, Nat.reduceEqDiff, not_false_eq_true]
  grind [b2, qSet, isM]
theorem IV_9 {g h : HP} (hI : IV g) (sf : SF [9] g h) (hs : Swords h) : IV h := IV_of hI sf (fun z => absurd z (by decide)) (fun _ => hs) (fun z => absurd z (by decide)) (fun z => absurd z (by decide)) (fun z => absurd z (by decide)) (fun z => absurd z (by decide)) (fun z => absurd z (by decide)) (fun z => absurd z (by decide))
theorem IV_u0 {g : HP} (hI : IV g) : IV (up g 43 0 0) := IV_0 hI (SF.rf.up (Or.inl rfl))
theorem p_scope {g : HP} (hI : IV g) (w on : Int) (hon : on = 0 ∨ on = 1) : PR mHelp_scope mModel_scope [.inr (.inr 0), .inl w, .inl on] [.inr (.inr 43), .inl w, .inl on] g := by
  obtain ⟨w1, w2, w3⟩ := hI.2.1
  have w60 := w1.2.1
  have w0 := w1.1
  have ci : trI mHelp_scope [.inr (.inr 0), .inl w, .inl on] SH0 g (qSet (isK g w 1) (g 13 w.toNat) (up g 13 w.toNat on) g) := by
    by_cases z : isK g w 1
    · exact t_Help_scope g w on w60 hon (w1.2.2.2 w.toNat (by have := z.1; have := z.2.1; omega)).1
    · exact n_Help_scope g w on w60 z
  have mi : ∀ h1, (∀ a, 43 ≤ a → h1 a = g a) → trI mModel_scope [.inr (.inr 43), .inl w, .inl on] SH0 h1 (qSet (isM h1 w 1) (h1 45 w.toNat) (up (up h1 43 0 0) 45 w.toNat on) (up h1 43 0 0)) := by
    intro h1 e
    have e1 : h1 43 1 = g 10 4 := by rw [e 43 (by decide)]; exact w3.1
    by_cases z : isM h1 w 1
    · refine t_Model_scope h1 w on (by rw [e1]; exact ⟨w0, w60⟩) hon ?_
      rw [e 45 (by decide)]
      have := z.1
      have := z.2.1
      exact (w2.2.2.2.2 w.toNat (by omega)).2.2.2.1
    · exact n_Model_scope h1 w on (by rw [e1]; exact ⟨w0, w60⟩) z
  refine ⟨_, ci, fun r h1 hq => ?_⟩
  have e : ∀ a, 43 ≤ a → h1 a = g a := by
    rcases hq with ⟨_, _, rfl⟩ | ⟨_, _, rfl⟩
    · exact fun _ _ => rfl
    · exact fun a ha => up_ne (by omega)
  refine ⟨_, mi h1 e, fun r' h2 hq' => ?_⟩
  have ekm : isM h1 w 1 ↔ isK g w 1 := by
    rw [← isKM w3]
    unfold isM
    rw [e 43 (by decide), e 44 (by decide)]
  unfold qSet at hq'
  rw [ekm, e 45 (by decide)] at hq'
  rcases hq with ⟨c1, rfl, rfl⟩ | ⟨c1, rfl, rfl⟩
  · rcases hq' with ⟨d1, rfl, rfl⟩ | ⟨d1, rfl, rfl⟩
    · exact ⟨rfl, IV_u0 hI⟩
    · exact absurd d1 c1
  · rcases hq' with ⟨d1, rfl, rfl⟩ | ⟨d1, rfl, rfl⟩
    · exact absurd c1 d1
    · obtain ⟨k1, k2, k3⟩ := c1
      have g4 := w2.2.2.2.1 w.toNat (by omega)
      refine ⟨by rw [g4.2.2.2, if_pos k3], IV_9 hI (((SF.rf.up (Or.inr (by show (9 : Nat) ∈ [9]; decide))).up (Or.inl rfl)).up (Or.inr (by show (9 : Nat) ∈ [9]; decide))) ?_⟩
      obtain ⟨h2, hh2⟩ : ∃ h2, up (up (up g 13 w.toNat on) 43 0 0) 45 w.toNat on = h2 := ⟨_, rfl⟩
      rw [hh2]
      have f : ∀ a, a ≠ 13 → a ≠ 43 → a ≠ 45 → h2 a = g a := fun a a1 a2 a3 => by rw [← hh2, up_ne a3, up_ne a2, up_ne a1]
      have f1 : h2 43 1 = g 43 1 := by rw [← hh2, up_n (by decide), up_f (by decide), up_n (by decide)]
      have f13 : ∀ j, h2 13 j = if j = w.toNat then on else g 13 j := fun j => by rw [← hh2, up_n (by decide), up_n (by decide), up_a]
      have f45 : ∀ j, h2 45 j = if j = w.toNat then on else g 45 j := fun j => by rw [← hh2, up_a, up_n (by decide), up_n (by decide)]
      unfold Swords CW IWords CMW
      rw [f1, f 10 (by decide) (by decide) (by decide), f 11 (by decide) (by decide) (by decide), f 12 (by decide) (by decide) (by decide), f 14 (by decide) (by decide) (by decide), f 44 (by decide) (by decide) (by decide), f 46 (by decide) (by decide) (by decide), f 47 (by decide) (by decide) (by decide)]
      simp only [f13, f45]
      refine ⟨⟨w0, w60, fun j hj => ?_, fun j hj => ?_⟩, ⟨w0, w60, w2.2.2.1, fun j hj => ?_, fun j hj => ?_⟩, w3.1, fun j hj => ?_⟩
      · obtain ⟨z1, z2, z3⟩ := w1.2.2.1 j hj
        refine ⟨z1, z2, fun y => ?_⟩
        rw [if_neg (by rintro rfl; exact y k3)]
        exact z3 y
      · obtain ⟨z1, z2⟩ := w1.2.2.2 j hj
        exact ⟨by split; exact hon; exact z1, z2⟩
      · obtain ⟨z1, z2, z3, z4⟩ := w2.2.2.2.1 j hj
        refine ⟨z1, z2, z3, ?_⟩
        by_cases y : j = w.toNat
        · rw [if_pos y, if_pos y, y, k3, if_pos rfl]
        · rw [if_neg y, if_neg y]; exact z4
      · obtain ⟨z1, z2, z3, z4, z5, z6⟩ := w2.2.2.2.2 j hj
        refine ⟨z1, z2, z3, by split; exact hon; exact z4, by split; exact hon; exact z5, fun y => ?_⟩
        rw [if_neg (by omega)]
        exact z6 y
      · obtain ⟨z1, z2, z3, z4⟩ := w3.2 j hj
        refine ⟨z1, z2, z3, ?_⟩
        by_cases y : j = w.toNat
        · rw [if_pos y, if_pos y, z1, y, k3]
          simp only [true_and]
        · rw [if_neg y, if_neg y]; exact z4
theorem p_danger {g : HP} (hI : IV g) (w on : Int) (hon : on = 0 ∨ on = 1) : PR mHelp_danger mModel_danger [.inr (.inr 0), .inl w, .inl on] [.inr (.inr 43), .inl w, .inl on] g := by
  obtain ⟨w1, w2, w3⟩ := hI.2.1
  have w60 := w1.2.1
  have w0 := w1.1
  have ci : trI mHelp_danger [.inr (.inr 0), .inl w, .inl on] SH0 g (qSet (isK g w 0) (g 14 w.toNat) (up g 14 w.toNat on) g) := by
    by_cases z : isK g w 0
    · exact t_Help_danger g w on w60 hon (w1.2.2.2 w.toNat (by have := z.1; have := z.2.1; omega)).2
    · exact n_Help_danger g w on w60 z
  have mi : ∀ h1, (∀ a, 43 ≤ a → h1 a = g a) → trI mModel_danger [.inr (.inr 43), .inl w, .inl on] SH0 h1 (qSet (isM h1 w 0) (h1 46 w.toNat) (up (up h1 43 0 0) 46 w.toNat on) (up h1 43 0 0)) := by
    intro h1 e
    have e1 : h1 43 1 = g 10 4 := by rw [e 43 (by decide)]; exact w3.1
    by_cases z : isM h1 w 0
    · refine t_Model_danger h1 w on (by rw [e1]; exact ⟨w0, w60⟩) hon ?_
      have := z.1
      have := z.2.1
      rw [e 46 (by decide), (w2.2.2.2.2 w.toNat (by omega)).2.1]
      exact (w2.2.2.2.2 w.toNat (by omega)).2.2.1
    · exact n_Model_danger h1 w on (by rw [e1]; exact ⟨w0, w60⟩) z
  refine ⟨_, ci, fun r h1 hq => ?_⟩
  have e : ∀ a, 43 ≤ a → h1 a = g a := by
    rcases hq with ⟨_, _, rfl⟩ | ⟨_, _, rfl⟩
    · exact fun _ _ => rfl
    · exact fun a ha => up_ne (by omega)
  refine ⟨_, mi h1 e, fun r' h2 hq' => ?_⟩
  have ekm : isM h1 w 0 ↔ isK g w 0 := by
    rw [← isKM w3]
    unfold isM
    rw [e 43 (by decide), e 44 (by decide)]
  unfold qSet at hq'
  rw [ekm, e 46 (by decide)] at hq'
  rcases hq with ⟨c1, rfl, rfl⟩ | ⟨c1, rfl, rfl⟩
  · rcases hq' with ⟨d1, rfl, rfl⟩ | ⟨d1, rfl, rfl⟩
    · exact ⟨rfl, IV_u0 hI⟩
    · exact absurd d1 c1
  · rcases hq' with ⟨d1, rfl, rfl⟩ | ⟨d1, rfl, rfl⟩
    · exact absurd c1 d1
    · obtain ⟨k1, k2, k3⟩ := c1
      have g4 := w2.2.2.2.2 w.toNat (by omega)
      refine ⟨g4.2.1.symm, IV_9 hI (((SF.rf.up (Or.inr (by show (9 : Nat) ∈ [9]; decide))).up (Or.inl rfl)).up (Or.inr (by show (9 : Nat) ∈ [9]; decide))) ?_⟩
      obtain ⟨h2, hh2⟩ : ∃ h2, up (up (up g 14 w.toNat on) 43 0 0) 46 w.toNat on = h2 := ⟨_, rfl⟩
      rw [hh2]
      have f : ∀ a, a ≠ 14 → a ≠ 43 → a ≠ 46 → h2 a = g a := fun a a1 a2 a3 => by rw [← hh2, up_ne a3, up_ne a2, up_ne a1]
      have f1 : h2 43 1 = g 43 1 := by rw [← hh2, up_n (by decide), up_f (by decide), up_n (by decide)]
      have f14 : ∀ j, h2 14 j = if j = w.toNat then on else g 14 j := fun j => by rw [← hh2, up_n (by decide), up_n (by decide), up_a]
      have f46 : ∀ j, h2 46 j = if j = w.toNat then on else g 46 j := fun j => by rw [← hh2, up_a, up_n (by decide), up_n (by decide)]
      unfold Swords CW IWords CMW
      rw [f1, f 10 (by decide) (by decide) (by decide), f 11 (by decide) (by decide) (by decide), f 12 (by decide) (by decide) (by decide), f 13 (by decide) (by decide) (by decide), f 44 (by decide) (by decide) (by decide), f 45 (by decide) (by decide) (by decide), f 47 (by decide) (by decide) (by decide)]
      simp only [f14, f46]
      refine ⟨⟨w0, w60, w1.2.2.1, fun j hj => ?_⟩, ⟨w0, w60, w2.2.2.1, w2.2.2.2.1, fun j hj => ?_⟩, w3.1, fun j hj => ?_⟩
      · obtain ⟨z1, z2⟩ := w1.2.2.2 j hj
        exact ⟨z1, by split; exact hon; exact z2⟩
      · obtain ⟨z1, z2, z3, z4, z5, z6⟩ := w2.2.2.2.2 j hj
        exact ⟨z1, by split; rfl; exact z2, by split; exact hon; exact z3, z4, z5, z6⟩
      · obtain ⟨z1, z2, z3, z4⟩ := w3.2 j hj
        exact ⟨z1, z2, by split; rfl; exact z3, z4⟩
theorem p_classes {g : HP} (hI : IV g) (w b : Int) : PR mHelp_classes mModel_classes [.inr (.inr 0), .inl w, .inl b] [.inr (.inr 43), .inl w, .inl b] g := by
  obtain ⟨w1, w2, w3⟩ := hI.2.1
  have w60 := w1.2.1
  have w0 := w1.1
  refine ⟨_, t_Help_classes g w b w60, fun r h1 hq => ?_⟩
  have e : ∀ a, 43 ≤ a → h1 a = g a := by
    rcases hq with ⟨_, _, rfl⟩ | ⟨_, _, rfl⟩
    · exact fun _ _ => rfl
    · exact fun a ha => up_ne (by omega)
  have e1 : h1 43 1 = g 10 4 := by rw [e 43 (by decide)]; exact w3.1
  refine ⟨_, t_Model_classes h1 w b (by rw [e1]; exact ⟨w0, w60⟩), fun r' h2 hq' => ?_⟩
  have ekm : isM h1 w 1 ↔ isK g w 1 := by
    rw [← isKM w3]
    unfold isM
    rw [e 43 (by decide), e 44 (by decide)]
  unfold qSet at hq'
  rw [ekm, e 47 (by decide)] at hq'
  rcases hq with ⟨c1, rfl, rfl⟩ | ⟨c1, rfl, rfl⟩
  · rcases hq' with ⟨d1, rfl, rfl⟩ | ⟨d1, rfl, rfl⟩
    · exact ⟨rfl, IV_u0 hI⟩
    · exact absurd d1 c1
  · rcases hq' with ⟨d1, rfl, rfl⟩ | ⟨d1, rfl, rfl⟩
    · exact absurd c1 d1
    · obtain ⟨⟨k1, k2, k3⟩, _⟩ := c1
      have g4 := w2.2.2.2.2 w.toNat (by omega)
      refine ⟨g4.1.symm, IV_9 hI (((SF.rf.up (Or.inr (by show (9 : Nat) ∈ [9]; decide))).up (Or.inl rfl)).up (Or.inr (by show (9 : Nat) ∈ [9]; decide))) ?_⟩
      obtain ⟨h2, hh2⟩ : ∃ h2, up (up (up g 12 w.toNat b) 43 0 0) 47 w.toNat b = h2 := ⟨_, rfl⟩
      rw [hh2]
      have f : ∀ a, a ≠ 12 → a ≠ 43 → a ≠ 47 → h2 a = g a := fun a a1 a2 a3 => by rw [← hh2, up_ne a3, up_ne a2, up_ne a1]
      have f1 : h2 43 1 = g 43 1 := by rw [← hh2, up_n (by decide), up_f (by decide), up_n (by decide)]
      have f12 : ∀ j, h2 12 j = if j = w.toNat then b else g 12 j := fun j => by rw [← hh2, up_n (by decide), up_n (by decide), up_a]
      have f47 : ∀ j, h2 47 j = if j = w.toNat then b else g 47 j := fun j => by rw [← hh2, up_a, up_n (by decide), up_n (by decide)]
      unfold Swords CW IWords CMW
      rw [f1, f 10 (by decide) (by decide) (by decide), f 11 (by decide) (by decide) (by decide), f 13 (by decide) (by decide) (by decide), f 14 (by decide) (by decide) (by decide), f 44 (by decide) (by decide) (by decide), f 45 (by decide) (by decide) (by decide), f 46 (by decide) (by decide) (by decide)]
      simp only [f12, f47]
      refine ⟨w1, ⟨w0, w60, w2.2.2.1, w2.2.2.2.1, fun j hj => ?_⟩, w3.1, fun j hj => ?_⟩
      · obtain ⟨z1, z2⟩ := w2.2.2.2.2 j hj
        exact ⟨by split; rfl; exact z1, z2⟩
      · obtain ⟨z1, z2, z3⟩ := w3.2 j hj
        exact ⟨z1, by split; rfl; exact z2, z3⟩
