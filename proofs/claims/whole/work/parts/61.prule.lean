/-! pairs of calls: rule, token, setting, near -/
theorem IV_4 {g h : HP} (hI : IV g) (sf : SF [4] g h) (hs : Srules h) : IV h := IV_of hI sf (fun z => absurd z (by decide)) (fun z => absurd z (by decide)) (fun z => absurd z (by decide)) (fun _ => hs) (fun z => absurd z (by decide)) (fun z => absurd z (by decide)) (fun z => absurd z (by decide)) (fun z => absurd z (by decide))
theorem IV_5 {g h : HP} (hI : IV g) (sf : SF [5] g h) (hs : Ssett h) : IV h := IV_of hI sf (fun z => absurd z (by decide)) (fun z => absurd z (by decide)) (fun z => absurd z (by decide)) (fun z => absurd z (by decide)) (fun _ => hs) (fun z => absurd z (by decide)) (fun z => absurd z (by decide)) (fun z => absurd z (by decide))
theorem s44 : sid 16 0 ∈ [4] := by decide
theorem p_rule {g : HP} (hI : IV g) (w : Int) : PR mHelp_rule mModel_rule [.inr (.inr 0), .inl w] [.inr (.inr 43), .inl w] g := by
  obtain ⟨w1, w2, w3⟩ := hI.2.1
  obtain ⟨r1, r2, r3⟩ := hI.2.2.2.1
  have w60 := w1.2.1
  have w0 := w1.1
  have r40 := r1.2.1
  have r0 := r1.1
  refine ⟨_, t_Help_rule g w w60 ⟨r0, r40⟩, fun r h1 hq => ?_⟩
  have e : ∀ a, 43 ≤ a → h1 a = g a := by
    rcases hq with ⟨_, _, rfl⟩ | ⟨_, _, _, rfl⟩ | ⟨_, _, _, rfl⟩
    · exact fun _ _ => rfl
    · exact fun _ _ => rfl
    · exact fun a ha => by rw [up_ne (by omega), up_ne (by omega)]
  have e1 : h1 43 1 = g 10 4 := by rw [e 43 (by decide)]; exact w3.1
  have e10 : h1 43 10 = g 15 3 := by rw [e 43 (by decide)]; exact r2.1
  refine ⟨_, t_Model_rule h1 w (by rw [e1]; exact ⟨w0, w60⟩) (by rw [e10]; exact ⟨r0, r40⟩), fun r' h2 hq' => ?_⟩
  have ekm : isM h1 w 0 ↔ isK g w 0 := by
    rw [← isKM w3]
    unfold isM
    rw [e 43 (by decide), e 44 (by decide)]
  unfold qFull at hq'
  rw [ekm, e10] at hq'
  rcases hq with ⟨c1, rfl, rfl⟩ | ⟨c1, c2, rfl, rfl⟩ | ⟨c1, c2, rfl, rfl⟩
  · rcases hq' with ⟨d1, rfl, rfl⟩ | ⟨d1, d2, rfl, rfl⟩ | ⟨d1, d2, rfl, rfl⟩
    · exact ⟨rfl, IV_u0 hI⟩
    · exact absurd d1 c1
    · exact absurd d1 c1
  · rcases hq' with ⟨d1, rfl, rfl⟩ | ⟨d1, d2, rfl, rfl⟩ | ⟨d1, d2, rfl, rfl⟩
    · exact absurd c1 d1
    · exact ⟨rfl, IV_u0 hI⟩
    · exact absurd c2 d2
  · rcases hq' with ⟨d1, rfl, rfl⟩ | ⟨d1, d2, rfl, rfl⟩ | ⟨d1, d2, rfl, rfl⟩
    · exact absurd c1 d1
    · exact absurd d2 c2
    · obtain ⟨k1, k2, k3⟩ := c1
      refine ⟨rfl, IV_4 hI (((((SF.rf.up (Or.inr (by show (4 : Nat) ∈ [4]; decide))).up (Or.inr (by show (4 : Nat) ∈ [4]; decide))).up (Or.inl rfl)).up (Or.inr (by show (4 : Nat) ∈ [4]; decide))).up (Or.inr (by show (4 : Nat) ∈ [4]; decide))) ?_⟩
      obtain ⟨h2, hh2⟩ : ∃ h2, up (up (up (up (up g 16 (g 15 3).toNat w) 15 3 (g 15 3 + 1)) 43 0 0) 51 (g 15 3).toNat w) 43 10 (g 15 3 + 1) = h2 := ⟨_, rfl⟩
      rw [hh2]
      have f : ∀ a, a ≠ 15 → a ≠ 16 → a ≠ 43 → a ≠ 51 → h2 a = g a := fun a a1 a2 a3 a4 => by rw [← hh2, up_ne a3, up_ne a4, up_ne a3, up_ne a1, up_ne a2]
      have f15 : h2 15 3 = g 15 3 + 1 := by rw [← hh2, up_n (by decide), up_n (by decide), up_n (by decide), up_s]
      have f43 : h2 43 10 = g 15 3 + 1 := by rw [← hh2, up_s]
      have f16 : ∀ j, h2 16 j = if j = (g 15 3).toNat then w else g 16 j := fun j => by rw [← hh2, up_n (by decide), up_n (by decide), up_n (by decide), up_n (by decide), up_a]
      have f51 : ∀ j, h2 51 j = if j = (g 15 3).toNat then w else g 51 j := fun j => by rw [← hh2, up_n (by decide), up_a, up_n (by decide), up_n (by decide), up_n (by decide)]
      unfold Srules CR CMR okTok
      rw [f15, f43, f 10 (by decide) (by decide) (by decide) (by decide), f 11 (by decide) (by decide) (by decide) (by decide), f 17 (by decide) (by decide) (by decide) (by decide), f 18 (by decide) (by decide) (by decide) (by decide), f 52 (by decide) (by decide) (by decide) (by decide), f 53 (by decide) (by decide) (by decide) (by decide)]
      simp only [f16, f51]
      refine ⟨⟨by omega, by omega, fun k hk => ?_, r1.2.2.2⟩, ⟨trivial, fun k hk => ?_, r2.2.2⟩, fun k hk y => r3 k hk (by omega)⟩
      · by_cases y : k = (g 15 3).toNat
        · simp only [if_pos y]
          refine ⟨k1, k2, k3, fun i hi => ?_⟩
          rw [r3 k (by omega) (by omega)] at hi
          omega
        · simp only [if_neg y]
          exact r1.2.2.1 k (by omega)
      · by_cases y : k = (g 15 3).toNat
        · simp only [if_pos y]
          refine ⟨trivial, fun i hi => ?_⟩
          rw [r3 k (by omega) (by omega)] at hi
          omega
        · simp only [if_neg y]
          exact r2.2.1 k (by omega)
set_option maxRecDepth 100000 in
set_option maxHeartbeats 4000000 in
theorem n_Help_token (h : HP) (k t : Int) (hw : h 10 4 ≤ 60) (hk : h 15 3 ≤ k) (hk0 : 0 ≤ k) : trI mHelp_token [.inr (.inr 0), .inl k, .inl t] SH0 h (fun r h' => h' = h ∧ r = -2) := by
  refine startI [some (.inr (.inr 0)), some (.inl k), some (.inl t), none] mHelp_token_c (go [28] 400 (k := ?_))
  simp (config := {maxSteps := 1000000}) only [↓pI_c, ↓pR_c, ↓pJ_c, ↓pV_c, ↓popN_0, ↓popN_s, ↓lI_0, ↓lR_0, ↓lJ_0, ↓lI_s, ↓lR_s, ↓lJ_s, ↓okSt_0, ↓okSt_I, ↓okSt_R, ↓okSt_N, ↓okSt_s, ↓rtI_s, ↓rtV_n, ↓brP_t, ↓brP_f, ↓sHelp_token_0, ↓sHelp_token_1, ↓rf_0_5, ↓sHelp_token_4, ↓sHelp_token_5, ↓sHelp_token_6, ↓sHelp_token_9, ↓sHelp_token_12, ↓sHelp_token_13, ↓sHelp_token_14, ↓sHelp_token_17, ↓sHelp_token_18, ↓sHelp_token_20, ↓sHelp_token_23, ↓sHelp_token_24, ↓sHelp_token_27, ↓sHelp_token_28, ↓sHelp_token_29, ↓sHelp_token_30, ↓sHelp_token_33, ↓sHelp_token_34, ↓sHelp_token_35, ↓rf_0_6, ↓sHelp_token_38, ↓rf_15_3, ↓sHelp_token_41, ↓sHelp_token_44, ↓sHelp_token_45, ↓sHelp_token_48, ↓sHelp_token_50, ↓sHelp_token_51, ↓sHelp_token_52, ↓sHelp_token_55, ↓rf_15_1, ↓sHelp_token_58, ↓sHelp_token_59, ↓sHelp_token_60, ↓sHelp_token_61, ↓sHelp_token_64, ↓sHelp_token_66, ↓sHelp_token_67, ↓sHelp_token_68, ↓sHelp_token_71, ↓sHelp_token_72, ↓sHelp_token_73, ↓sHelp_token_76, ↓ln_17, List.set_cons_zero, List.set_cons_succ, List.length_cons, List.length_nil, List.contains_cons, List.contains_nil, cat1, brP_d, true_and, and_true, not_false_eq_true, not_true_eq_false, if_true, if_false, Bool.or_false, Bool.false_or, Bool.or_true, Bool.true_or, Bool.false_eq_true, Bool.or_self, false_implies, true_implies, forall_const, and_self, implies_true, true_or, or_true, or_false, false_or, or_self, Classical.not_not, Int.reduceAdd, Int.reduceSub, Int.reduceMul, Int.reduceNeg, Int.reduceToNat, Int.reduceLT, Int.reduceLE, Int.reduceEq, Int.reduceNe, Int.reduceNatCast', Nat.reduceAdd, Nat.reduceSub, Nat.reduceLeDiff, Nat.reduceLT, Nat.reduceEqDiff, Nat.reduceBEq, reduceIte, nx_w, nx_c, up_n, up_s, up_f, ne_eq, Nat.reduceEqDiff, Option.some.injEq, Prod.mk.injEq, exists_eq_left', reduceCtorEq, ob_10, ob_15]
  refine use_p (t_Words_isOf h t 2 hw) ?_
  have key : ∀ b : Int, b = 0 ∨ b = 1 → Wn Z4 mHelp_token SH0 28 [some (.inr (.inr 0)), some (.inl k), some (.inl t), none] [.inl b] h (rtI (fun r h' => h' = h ∧ r = -2)) := by
    intro b hb
    refine go [9999] 400 (k := ?_)
    simp (config := {maxSteps := 1000000}) only [↓pI_c, ↓pR_c, ↓pJ_c, ↓pV_c, ↓popN_0, ↓popN_s, ↓lI_0, ↓lR_0, ↓lJ_0, ↓lI_s, ↓lR_s, ↓lJ_s, ↓okSt_0, ↓okSt_I, ↓okSt_R, ↓okSt_N, ↓okSt_s, ↓rtI_s, ↓rtV_n, ↓brP_t, ↓brP_f, ↓sHelp_token_0, ↓sHelp_token_1, ↓rf_0_5, ↓sHelp_token_4, ↓sHelp_token_5, ↓sHelp_token_6, ↓sHelp_token_9, ↓sHelp_token_12, ↓sHelp_token_13, ↓sHelp_token_14, ↓sHelp_token_17, ↓sHelp_token_18, ↓sHelp_token_20, ↓sHelp_token_23, ↓sHelp_token_24, ↓sHelp_token_27, ↓sHelp_token_28, ↓sHelp_token_29, ↓sHelp_token_30, ↓sHelp_token_33, ↓sHelp_token_34, ↓sHelp_token_35, ↓rf_0_6, ↓sHelp_token_38, ↓rf_15_3, ↓sHelp_token_41, ↓sHelp_token_44, ↓sHelp_token_45, ↓sHelp_token_48, ↓sHelp_token_50, ↓sHelp_token_51, ↓sHelp_token_52, ↓sHelp_token_55, ↓rf_15_1, ↓sHelp_token_58, ↓sHelp_token_59, ↓sHelp_token_60, ↓sHelp_token_61, ↓sHelp_token_64, ↓sHelp_token_66, ↓sHelp_token_67, ↓sHelp_token_68, ↓sHelp_token_71, ↓sHelp_token_72, ↓sHelp_token_73, ↓sHelp_token_76, ↓ln_17, List.set_cons_zero, List.set_cons_succ, List.length_cons, List.length_nil, List.contains_cons, List.contains_nil, cat1, brP_d, true_and, and_true, not_false_eq_true, not_true_eq_false, if_true, if_false, Bool.or_false, Bool.false_or, Bool.or_true, Bool.true_or, Bool.false_eq_true, Bool.or_self, false_implies, true_implies, forall_const, and_self, implies_true, true_or, or_true, or_false, false_or, or_self, Classical.not_not, Int.reduceAdd, Int.reduceSub, Int.reduceMul, Int.reduceNeg, Int.reduceToNat, Int.reduceLT, Int.reduceLE, Int.reduceEq, Int.reduceNe, Int.reduceNatCast', Nat.reduceAdd, Nat.reduceSub, Nat.reduceLeDiff, Nat.reduceLT, Nat.reduceEqDiff, Nat.reduceBEq, reduceIte, nx_w, nx_c, up_n, up_s, up_f, ne_eq, Nat.reduceEqDiff, Option.some.injEq, Prod.mk.injEq, exists_eq_left', reduceCtorEq, ob_10, ob_15]
    grind
  grind [b2]
set_option maxRecDepth 100000 in
set_option maxHeartbeats 4000000 in
theorem n_Model_token (h : HP) (k t : Int) (hk : h 43 10 ≤ k) (hk0 : 0 ≤ h 43 10 ∧ h 43 10 ≤ 40) : trI mModel_token [.inr (.inr 43), .inl k, .inl t] SH0 h (fun r h' => h' = up h 43 0 0 ∧ r = -2) := by
  refine startI [some (.inr (.inr 43)), some (.inl k), some (.inl t)] mModel_token_c (go [41] 400 (k := ?_))
  simp (config := {maxSteps := 1000000}) only [↓pI_c, ↓pR_c, ↓pJ_c, ↓pV_c, ↓popN_0, ↓popN_s, ↓lI_0, ↓lR_0, ↓lJ_0, ↓lI_s, ↓lR_s, ↓lJ_s, ↓okSt_0, ↓okSt_I, ↓okSt_R, ↓okSt_N, ↓okSt_s, ↓rtI_s, ↓rtV_n, ↓brP_t, ↓brP_f, ↓sModel_token_0, ↓sModel_token_1, ↓sModel_token_2, ↓rf_43_0, ↓sModel_token_5, ↓sModel_token_6, ↓sModel_token_7, ↓sModel_token_8, ↓rf_43_10, ↓sModel_token_11, ↓sModel_token_12, ↓sModel_token_13, ↓sModel_token_16, ↓sModel_token_19, ↓sModel_token_20, ↓sModel_token_22, ↓sModel_token_23, ↓sModel_token_26, ↓sModel_token_29, ↓sModel_token_30, ↓sModel_token_31, ↓sModel_token_32, ↓sModel_token_35, ↓sModel_token_38, ↓sModel_token_40, ↓sModel_token_41, ↓sModel_token_42, ↓rf_43_13, ↓sModel_token_45, ↓sModel_token_46, ↓sModel_token_47, ↓sModel_token_48, ↓sModel_token_51, ↓sModel_token_53, ↓sModel_token_54, ↓sModel_token_55, ↓rf_43_12, ↓sModel_token_58, ↓sModel_token_59, ↓sModel_token_60, ↓sModel_token_61, ↓sModel_token_62, ↓sModel_token_65, ↓sModel_token_66, ↓sModel_token_67, ↓sModel_token_68, ↓sModel_token_69, ↓sModel_token_70, ↓sModel_token_71, ↓sModel_token_74, ↓sModel_token_75, ↓sModel_token_76, ↓sModel_token_77, ↓sModel_token_78, ↓sModel_token_79, ↓sModel_token_80, ↓sModel_token_81, ↓sModel_token_84, ↓sModel_token_85, ↓sModel_token_86, ↓ln_52, ↓ln_53, List.set_cons_zero, List.set_cons_succ, List.length_cons, List.length_nil, List.contains_cons, List.contains_nil, cat1, brP_d, true_and, and_true, not_false_eq_true, not_true_eq_false, if_true, if_false, Bool.or_false, Bool.false_or, Bool.or_true, Bool.true_or, Bool.false_eq_true, Bool.or_self, false_implies, true_implies, forall_const, and_self, implies_true, true_or, or_true, or_false, false_or, or_self, Classical.not_not, Int.reduceAdd, Int.reduceSub, Int.reduceMul, Int.reduceNeg, Int.reduceToNat, Int.reduceLT, Int.reduceLE, Int.reduceEq, Int.reduceNe, Int.reduceNatCast', Nat.reduceAdd, Nat.reduceSub, Nat.reduceLeDiff, Nat.reduceLT, Nat.reduceEqDiff, Nat.reduceBEq, reduceIte, nx_w, nx_c, up_n, up_s, up_f, ne_eq, Nat.reduceEqDiff, Option.some.injEq, Prod.mk.injEq, exists_eq_left', reduceCtorEq, ob_43]
  rw [wr_id (x := h 43 10 - 1) (by omega) (by omega)]
  refine use_in (fun e1 => ?_) (fun e1 => ?_)
  · omega
  · simp only [not_true_eq_false, true_implies, false_implies, true_and, and_true]
theorem p_token {g : HP} (hI : IV g) (k t : Int) : PR mHelp_token mModel_token [.inr (.inr 0), .inl k, .inl t] [.inr (.inr 43), .inl k, .inl t] g := by
  obtain ⟨w1, w2, w3⟩ := hI.2.1
  obtain ⟨r1, r2, r3⟩ := hI.2.2.2.1
  have w60 := w1.2.1
  have w0 := w1.1
  have r40 := r1.2.1
  have r0 := r1.1
  by_cases k40 : k < 40
  · have l4 := r1.2.2.2 k.toNat (by omega)
    refine ⟨_, t_Help_token g k t w60 ⟨r0, r40⟩ l4, fun r h1 hq => ?_⟩
    have e : ∀ a, 43 ≤ a → h1 a = g a := by
      rcases hq with ⟨_, _, rfl⟩ | ⟨_, _, _, rfl⟩ | ⟨_, _, _, rfl⟩
      · exact fun _ _ => rfl
      · exact fun _ _ => rfl
      · exact fun a ha => by rw [up_ne (by omega), up_ne (by omega)]
    have e1 : h1 43 1 = g 10 4 := by rw [e 43 (by decide)]; exact w3.1
    have e10 : h1 43 10 = g 15 3 := by rw [e 43 (by decide)]; exact r2.1
    have e53 : h1 53 k.toNat = g 17 k.toNat := by rw [e 53 (by decide)]; exact r2.2.2 k.toNat (by omega)
    refine ⟨_, t_Model_token h1 k t (by rw [e1]; exact ⟨w0, w60⟩) (by rw [e10]; exact ⟨r0, r40⟩) (by rw [e53]; exact l4), fun r' h2 hq' => ?_⟩
    have ekm : isM h1 t 2 ↔ isK g t 2 := by
      rw [← isKM w3]
      unfold isM
      rw [e 43 (by decide), e 44 (by decide)]
    unfold qFull at hq'
    rw [ekm, e10, e53] at hq'
    rcases hq with ⟨c1, rfl, rfl⟩ | ⟨c1, c2, rfl, rfl⟩ | ⟨c1, c2, rfl, rfl⟩
    · rcases hq' with ⟨d1, rfl, rfl⟩ | ⟨d1, d2, rfl, rfl⟩ | ⟨d1, d2, rfl, rfl⟩
      · exact ⟨rfl, IV_u0 hI⟩
      · exact absurd d1 c1
      · exact absurd d1 c1
    · rcases hq' with ⟨d1, rfl, rfl⟩ | ⟨d1, d2, rfl, rfl⟩ | ⟨d1, d2, rfl, rfl⟩
      · exact absurd c1 d1
      · exact ⟨rfl, IV_u0 hI⟩
      · exact absurd c2 d2
    · rcases hq' with ⟨d1, rfl, rfl⟩ | ⟨d1, d2, rfl, rfl⟩ | ⟨d1, d2, rfl, rfl⟩
      · exact absurd c1 d1
      · exact absurd d2 c2
      · obtain ⟨⟨k1, k2⟩, k3⟩ := c1
        refine ⟨rfl, IV_4 hI (((((SF.rf.up (Or.inr (by show (4 : Nat) ∈ [4]; decide))).up (Or.inr (by show (4 : Nat) ∈ [4]; decide))).up (Or.inl rfl)).up (Or.inr (by show (4 : Nat) ∈ [4]; decide))).up (Or.inr (by show (4 : Nat) ∈ [4]; decide))) ?_⟩
        obtain ⟨h2, hh2⟩ : ∃ h2, up (up (up (up (up g 18 (k * 4 + g 17 k.toNat).toNat t) 17 k.toNat (g 17 k.toNat + 1)) 43 0 0) 52 (4 * k + g 17 k.toNat).toNat t) 53 k.toNat (g 17 k.toNat + 1) = h2 := ⟨_, rfl⟩
        rw [hh2]
        have f : ∀ a, a ≠ 17 → a ≠ 18 → a ≠ 43 → a ≠ 52 → a ≠ 53 → h2 a = g a := fun a a1 a2 a3 a4 a5 => by rw [← hh2, up_ne a5, up_ne a4, up_ne a3, up_ne a1, up_ne a2]
        have f43 : h2 43 10 = g 43 10 := by rw [← hh2, up_n (by decide), up_n (by decide), up_f (by decide), up_n (by decide), up_n (by decide)]
        have f17 : ∀ j, h2 17 j = if j = k.toNat then g 17 k.toNat + 1 else g 17 j := fun j => by rw [← hh2, up_n (by decide), up_n (by decide), up_n (by decide), up_a, up_n (by decide)]
        have f53 : ∀ j, h2 53 j = if j = k.toNat then g 17 k.toNat + 1 else g 53 j := fun j => by rw [← hh2, up_a, up_n (by decide), up_n (by decide), up_n (by decide), up_n (by decide)]
        have f18 : ∀ j, h2 18 j = if j = (k * 4 + g 17 k.toNat).toNat then t else g 18 j := fun j => by rw [← hh2, up_n (by decide), up_n (by decide), up_n (by decide), up_n (by decide), up_a]
        have f52 : ∀ j, h2 52 j = if j = (4 * k + g 17 k.toNat).toNat then t else g 52 j := fun j => by rw [← hh2, up_n (by decide), up_a, up_n (by decide), up_n (by decide), up_n (by decide)]
        unfold Srules CR CMR okTok
        rw [f43, f 10 (by decide) (by decide) (by decide) (by decide) (by decide), f 11 (by decide) (by decide) (by decide) (by decide) (by decide), f 15 (by decide) (by decide) (by decide) (by decide) (by decide), f 16 (by decide) (by decide) (by decide) (by decide) (by decide), f 51 (by decide) (by decide) (by decide) (by decide) (by decide)]
        simp only [f17, f18, f52, f53]
        refine ⟨⟨r0, r40, fun j hj => ?_, fun j hj => ?_⟩, ⟨r2.1, fun j hj => ?_, fun j hj => ?_⟩, fun j hj y => ?_⟩
        · obtain ⟨z1, z2, z3, z4⟩ := r1.2.2.1 j hj
          refine ⟨z1, z2, z3, fun i hi => ?_⟩
          by_cases y : j = k.toNat
          · rw [if_pos y] at hi
            by_cases x : (i : Int) = g 17 k.toNat
            · rw [if_pos (by omega)]
              rcases k3 with x1 | x1
              · exact Or.inr x1
              · exact Or.inl x1
            · rw [if_neg (by omega)]
              exact z4 i (by rw [y]; omega)
          · rw [if_neg y] at hi
            have := r1.2.2.2 j (by omega)
            rw [if_neg (by omega)]
            exact z4 i hi
        · by_cases y : j = k.toNat
          · rw [if_pos y]; omega
          · rw [if_neg y]; exact r1.2.2.2 j hj
        · obtain ⟨z1, z2⟩ := r2.2.1 j hj
          refine ⟨z1, fun i hi => ?_⟩
          by_cases y : j = k.toNat
          · rw [if_pos y] at hi
            by_cases x : (i : Int) = g 17 k.toNat
            · rw [if_pos (by omega), if_pos (by omega)]
            · rw [if_neg (by omega), if_neg (by omega)]
              exact z2 i (by rw [y]; omega)
          · rw [if_neg y] at hi
            have := r1.2.2.2 j (by omega)
            rw [if_neg (by omega), if_neg (by omega)]
            exact z2 i hi
        · by_cases y : j = k.toNat
          · rw [if_pos y, if_pos y]
          · rw [if_neg y, if_neg y]; exact r2.2.2 j hj
        · rw [if_neg (by omega)]
          exact r3 j hj y
  · refine ⟨_, n_Help_token g k t w60 (by omega) (by omega), fun r h1 hq => ?_⟩
    obtain ⟨rfl, rfl⟩ := hq
    refine ⟨_, n_Model_token h1 k t (by rw [r2.1]; omega) (by rw [r2.1]; exact ⟨r0, r40⟩), fun r' h2 hq' => ?_⟩
    obtain ⟨rfl, rfl⟩ := hq'
    exact ⟨rfl, IV_u0 hI⟩
theorem p_setting {g : HP} (hI : IV g) (w v : Int) : PR mHelp_setting mModel_setting [.inr (.inr 0), .inl w, .inl v] [.inr (.inr 43), .inl w, .inl v] g := by
  obtain ⟨s1, s2, s3⟩ := hI.2.2.2.2.1
  refine ⟨_, t_Help_setting g w v s3, fun r h1 hq => ?_⟩
  refine ⟨_, t_Model_setting h1 w v, fun r' h2 hq' => ?_⟩
  rcases hq with ⟨c1, rfl, rfl⟩ | ⟨c1, rfl, rfl⟩
  · rcases hq' with ⟨d1, rfl, rfl⟩ | ⟨d1, rfl, rfl⟩
    · exact ⟨rfl, IV_u0 hI⟩
    · exact absurd d1 c1
  · rcases hq' with ⟨d1, rfl, rfl⟩ | ⟨d1, rfl, rfl⟩
    · exact absurd c1 d1
    · have k := c1
      unfold okSet at k
      refine ⟨by rw [up_n (by decide), s2.1 w.toNat (by omega)], IV_5 hI (((SF.rf.up (Or.inr (by show (5 : Nat) ∈ [5]; decide))).up (Or.inl rfl)).up (Or.inr (by show (5 : Nat) ∈ [5]; decide))) ?_⟩
      obtain ⟨h2, hh2⟩ : ∃ h2, up (up (up g 4 w.toNat v) 43 0 0) 54 w.toNat v = h2 := ⟨_, rfl⟩
      rw [hh2]
      have f : ∀ a, a ≠ 4 → a ≠ 43 → a ≠ 54 → h2 a = g a := fun a a1 a2 a3 => by rw [← hh2, up_ne a3, up_ne a2, up_ne a1]
      have f4 : ∀ j, h2 4 j = if j = w.toNat then v else g 4 j := fun j => by rw [← hh2, up_n (by decide), up_n (by decide), up_a]
      have f54 : ∀ j, h2 54 j = if j = w.toNat then v else g 54 j := fun j => by rw [← hh2, up_a, up_n (by decide), up_n (by decide)]
      unfold Ssett CS CMS
      rw [f 5 (by decide) (by decide) (by decide), f 55 (by decide) (by decide) (by decide), f 1002 (by decide) (by decide) (by decide), f 1003 (by decide) (by decide) (by decide)]
      simp only [f4, f54]
      refine ⟨⟨fun j hj => ?_, s1.2⟩, ⟨fun j hj => ?_, s2.2⟩, s3⟩
      · by_cases y : j = w.toNat
        · rw [if_pos y, y]; exact ⟨k.2.2.1, k.2.2.2⟩
        · rw [if_neg y]; exact s1.1 j hj
      · by_cases y : j = w.toNat
        · rw [if_pos y, if_pos y]
        · rw [if_neg y, if_neg y]; exact s2.1 j hj
theorem p_near {g : HP} (hI : IV g) (a b : Int) : PR mHelp_near mModel_near [.inr (.inr 0), .inl a, .inl b] [.inr (.inr 43), .inl a, .inl b] g := by
  obtain ⟨s1, s2, s3⟩ := hI.2.2.2.2.1
  refine ⟨_, t_Help_near g a b, fun r h1 hq => ?_⟩
  refine ⟨_, t_Model_near h1 a b, fun r' h2 hq' => ?_⟩
  rcases hq with ⟨c1, rfl, rfl⟩ | ⟨c1, rfl, rfl⟩
  · rcases hq' with ⟨d1, rfl, rfl⟩ | ⟨d1, rfl, rfl⟩
    · exact ⟨rfl, IV_u0 hI⟩
    · exact absurd d1 c1
  · rcases hq' with ⟨d1, rfl, rfl⟩ | ⟨d1, rfl, rfl⟩
    · exact absurd c1 d1
    · have k := c1
      unfold okNear at k
      refine ⟨by rw [up_n (by decide), up_n (by decide), s2.2 (26 * a + b).toNat (by omega)], IV_5 hI (((((SF.rf.up (Or.inr (by show (5 : Nat) ∈ [5]; decide))).up (Or.inr (by show (5 : Nat) ∈ [5]; decide))).up (Or.inl rfl)).up (Or.inr (by show (5 : Nat) ∈ [5]; decide))).up (Or.inr (by show (5 : Nat) ∈ [5]; decide))) ?_⟩
      obtain ⟨h2, hh2⟩ : ∃ h2, up (up (up (up (up g 5 (26 * a + b).toNat 1) 5 (26 * b + a).toNat 1) 43 0 0) 55 (26 * a + b).toNat 1) 55 (26 * b + a).toNat 1 = h2 := ⟨_, rfl⟩
      rw [hh2]
      have f : ∀ x, x ≠ 5 → x ≠ 43 → x ≠ 55 → h2 x = g x := fun x a1 a2 a3 => by rw [← hh2, up_ne a3, up_ne a3, up_ne a2, up_ne a1, up_ne a1]
      have f5 : ∀ j, h2 5 j = if j = (26 * b + a).toNat then 1 else if j = (26 * a + b).toNat then 1 else g 5 j := fun j => by rw [← hh2, up_n (by decide), up_n (by decide), up_n (by decide), up_a, up_a]
      have f55 : ∀ j, h2 55 j = if j = (26 * b + a).toNat then 1 else if j = (26 * a + b).toNat then 1 else g 55 j := fun j => by rw [← hh2, up_a, up_a, up_n (by decide), up_n (by decide), up_n (by decide)]
      unfold Ssett CS CMS
      rw [f 4 (by decide) (by decide) (by decide), f 54 (by decide) (by decide) (by decide), f 1002 (by decide) (by decide) (by decide), f 1003 (by decide) (by decide) (by decide)]
      simp only [f5, f55]
      refine ⟨⟨s1.1, fun j hj => ?_⟩, ⟨s2.1, fun j hj => ?_⟩, s3⟩
      · have := s1.2 j hj
        split
        · exact Or.inr rfl
        · split
          · exact Or.inr rfl
          · exact this
      · have := s2.2 j hj
        split
        · rfl
        · split
          · rfl
          · exact this
