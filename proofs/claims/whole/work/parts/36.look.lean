/-! frames of calls that change nothing lasting; look, typed, at, count of both sides -/
def KF (h h' : HP) : Prop := ∀ a, a < 24 ∨ 36 ≤ a → h' a = h a
theorem KF.rf {h : HP} : KF h h := fun _ _ => rfl
theorem KF.tr {a b c : HP} (h1 : KF a b) (h2 : KF b c) : KF a c := fun k hk => (h2 k hk).trans (h1 k hk)
theorem KF.up {h h' : HP} (h1 : KF h h') {k j : Nat} {x : Int} (hk : 24 ≤ k ∧ k < 36) : KF h (up h' k j x) := fun a ha => by rw [up_ne (by omega)]; exact h1 a ha
theorem KF.sy {a b : HP} (h1 : KF a b) : KF b a := fun k hk => (h1 k hk).symm
theorem CI.kf {g h : HP} (hk : KF g h) (hC : CI g) : CI h := by
  have e : ∀ a, a < 24 → h a = g a := fun a ha => hk a (Or.inl ha)
  obtain ⟨hW, hN, hR, hS, hL⟩ := hC
  refine ⟨?_, CN_congr (e 6 (by decide)) (e 7 (by decide)) (e 8 (by decide)) (e 9 (by decide)) (e 10 (by decide)) hN, ?_, ?_, CL0_congr (e 6 (by decide)) (e 7 (by decide)) (e 8 (by decide)) (e 19 (by decide)) (e 20 (by decide)) (e 21 (by decide)) (e 22 (by decide)) (e 23 (by decide)) hL⟩
  · unfold CW
    rw [e 10 (by decide), e 11 (by decide), e 13 (by decide), e 14 (by decide)]
    exact hW
  · unfold CR okTok
    rw [e 10 (by decide), e 11 (by decide), e 15 (by decide), e 16 (by decide), e 17 (by decide), e 18 (by decide)]
    exact hR
  · unfold CS
    rw [e 4 (by decide), e 5 (by decide)]
    exact hS
theorem CM.kf {g h h' : HP} (hk : KF h h') (hm : CM g h) : CM g h' := by
  have e : ∀ a, 43 ≤ a → h' a = h a := fun a ha => hk a (Or.inr (by omega))
  unfold CM CMW CMN CMR CMS CML at *
  rw [e 43 (by decide), e 44 (by decide), e 45 (by decide), e 46 (by decide), e 47 (by decide), e 48 (by decide), e 49 (by decide), e 50 (by decide), e 51 (by decide), e 52 (by decide), e 53 (by decide), e 54 (by decide), e 55 (by decide), e 57 (by decide)]
  exact hm
theorem KF.rd {h h' : HP} (hr : rdF h h') : KF h h' := fun a ha => hr.1 a (by omega) (by omega) (by omega)
theorem fitF_uni {h : HP} {wf : Nat → Int} {n x x' : Int} (h1 : fitF h wf n x) (h2 : fitF h wf n x') : x = x' := by
  rcases h1 with ⟨rfl, a⟩ | ⟨r, a1, rfl, a2, a3⟩
  · rcases h2 with ⟨rfl, b⟩ | ⟨r', b1, rfl, b2, b3⟩
    · rfl
    · exact absurd b2 (a r' b1)
  · rcases h2 with ⟨rfl, b⟩ | ⟨r', b1, rfl, b2, b3⟩
    · exact absurd a2 (b r a1)
    · rcases Nat.lt_trichotomy r r' with z | z | z
      · exact absurd a2 (b3 r z)
      · rw [z]
      · exact absurd b2 (a3 r' z)
theorem verdR_uni {h : HP} {n v c p x v' c' p' x' : Int} {tf wf : Nat → Int} (h1 : verdR h n tf wf v c p x) (h2 : verdR h n tf wf v' c' p' x') : v = v' ∧ c = c' ∧ x = x' := by
  rcases h1 with ⟨a1, a2, a3, a4⟩ | ⟨a1, a2, a3, a4, q, a5, a6, a7, a8, a9⟩ | ⟨a1, a2, a3⟩
  · rcases h2 with ⟨b1, b2, b3, b4⟩ | ⟨b1, _⟩ | ⟨b1, _⟩
    · exact ⟨by omega, by omega, by omega⟩
    · omega
    · omega
  · rcases h2 with ⟨b1, b2, b3, b4⟩ | ⟨b1, b2, b3, b4, q', b5, b6, b7, b8, b9⟩ | ⟨b1, b2, b3⟩
    · omega
    · refine ⟨by rw [a4, b4], ?_, by omega⟩
      rcases Nat.lt_trichotomy q q' with z | z | z
      · exact absurd a8 (b9 q z)
      · rw [a7, b7, z]
      · exact absurd b8 (a9 q' z)
    · omega
  · rcases h2 with ⟨b1, b2, b3, b4⟩ | ⟨b1, b2, b3, b4, q', b5, b6, b7, b8, b9⟩ | ⟨b1, b2, b3⟩
    · omega
    · omega
    · rcases a3 with ⟨c1, c2, c3, c4⟩ | ⟨c1, q, c2, c3, c4, c5, c6, c7⟩ | ⟨c1, c2, c3, c4, c5⟩
      · rcases b3 with ⟨d1, d2, d3, d4⟩ | ⟨d1, _⟩ | ⟨d1, _⟩
        · exact ⟨by omega, by omega, by omega⟩
        · exact absurd d1 c1
        · exact absurd d1 c1
      · rcases b3 with ⟨d1, _⟩ | ⟨d1, q', d2, d3, d4, d5, d6, d7⟩ | ⟨d1, d2, _⟩
        · exact absurd c1 d1
        · refine ⟨by omega, ?_, by omega⟩
          rcases Nat.lt_trichotomy q q' with z | z | z
          · exact absurd c3 (d4 q z)
          · rw [c6, d6, z]
          · exact absurd d3 (c4 q' z)
        · exact absurd c3 (d2 q c2)
      · rcases b3 with ⟨d1, _⟩ | ⟨d1, q', d2, d3, d4, d5, d6, d7⟩ | ⟨d1, d2, d3, d4, d5⟩
        · exact absurd c1 d1
        · exact absurd d3 (c2 q' d2)
        · have := fitF_uni c4 d4
          subst this
          exact ⟨by rw [c5, d5], by omega, rfl⟩
def sLook (g : HP) (r : Int) : Prop := ∃ c p x, verdR g (mN g) (fun i => mT g i) (mW g) r c p x
def roC (S : HP → Int → Prop) (h : HP) (r : Int) (h' : HP) : Prop := KF h h' ∧ S h r
def roM (S : Int → Prop) (h : HP) (r : Int) (h' : HP) : Prop := MS h h' ∧ S r
set_option maxRecDepth 100000 in
set_option maxHeartbeats 4000000 in
theorem t_Help_look (h : HP) (hC : CI h) : trI mHelp_look [.inr (.inr 0)] SH0 h (roC sLook h) := by
  refine startI [some (.inr (.inr 0))] mHelp_look_c (go [9999] 400 (k := ?_))
  simp (config := {maxSteps := 1000000}) only [↓pI_c, ↓pR_c, ↓pJ_c, ↓pV_c, ↓popN_0, ↓popN_s, ↓lI_0, ↓lR_0, ↓lJ_0, ↓lI_s, ↓lR_s, ↓lJ_s, ↓okSt_0, ↓okSt_I, ↓okSt_R, ↓okSt_N, ↓okSt_s, ↓rtI_s, ↓rtV_n, ↓brP_t, ↓brP_f, ↓sHelp_look_0, ↓sHelp_look_1, ↓rf_0_8, ↓sHelp_look_4, ↓sHelp_look_7, ↓sHelp_look_8, ↓sHelp_look_11, ↓rf_24_7, ↓sHelp_look_14, List.set_cons_zero, List.set_cons_succ, List.length_cons, List.length_nil, List.contains_cons, List.contains_nil, cat1, brP_d, true_and, and_true, not_false_eq_true, not_true_eq_false, if_true, if_false, Bool.or_false, Bool.false_or, Bool.or_true, Bool.true_or, Bool.false_eq_true, Bool.or_self, false_implies, true_implies, forall_const, and_self, implies_true, true_or, or_true, or_false, false_or, or_self, Classical.not_not, Int.reduceAdd, Int.reduceSub, Int.reduceMul, Int.reduceNeg, Int.reduceToNat, Int.reduceLT, Int.reduceLE, Int.reduceEq, Int.reduceNe, Int.reduceNatCast', Nat.reduceAdd, Nat.reduceSub, Nat.reduceLeDiff, Nat.reduceLT, Nat.reduceEqDiff, Nat.reduceBEq, reduceIte, nx_w, nx_c, up_n, up_s, up_f, ne_eq, Nat.reduceEqDiff, Option.some.injEq, Prod.mk.injEq, exists_eq_left', reduceCtorEq, ob_24]
  refine trV_use (t_Read_update h hC) ?_
  rintro h' ⟨q1, q2, q3, q4⟩
  exact ⟨KF.rd q1, _, _, _, q4⟩
theorem msu0 {h : HP} : MS h (up h 43 0 0) := MS.rf.up (by decide) rfl
set_option maxRecDepth 100000 in
set_option maxHeartbeats 4000000 in
theorem t_Model_look (g h : HP) (hC : CI g) (hm : CM g h) : trI mModel_look [.inr (.inr 43)] SH0 h (roM (sLook g) h) := by
  refine startI [some (.inr (.inr 43))] mModel_look_c (go [9999] 400 (k := ?_))
  simp (config := {maxSteps := 1000000}) only [↓pI_c, ↓pR_c, ↓pJ_c, ↓pV_c, ↓popN_0, ↓popN_s, ↓lI_0, ↓lR_0, ↓lJ_0, ↓lI_s, ↓lR_s, ↓lJ_s, ↓okSt_0, ↓okSt_I, ↓okSt_R, ↓okSt_N, ↓okSt_s, ↓rtI_s, ↓rtV_n, ↓brP_t, ↓brP_f, ↓sModel_look_0, ↓sModel_look_1, ↓sModel_look_2, ↓rf_43_0, ↓sModel_look_5, ↓sModel_look_6, ↓sModel_look_9, ↓sModel_look_10, ↓rf_43_29, ↓sModel_look_13, List.set_cons_zero, List.set_cons_succ, List.length_cons, List.length_nil, List.contains_cons, List.contains_nil, cat1, brP_d, true_and, and_true, not_false_eq_true, not_true_eq_false, if_true, if_false, Bool.or_false, Bool.false_or, Bool.or_true, Bool.true_or, Bool.false_eq_true, Bool.or_self, false_implies, true_implies, forall_const, and_self, implies_true, true_or, or_true, or_false, false_or, or_self, Classical.not_not, Int.reduceAdd, Int.reduceSub, Int.reduceMul, Int.reduceNeg, Int.reduceToNat, Int.reduceLT, Int.reduceLE, Int.reduceEq, Int.reduceNe, Int.reduceNatCast', Nat.reduceAdd, Nat.reduceSub, Nat.reduceLeDiff, Nat.reduceLT, Nat.reduceEqDiff, Nat.reduceBEq, reduceIte, nx_w, nx_c, up_n, up_s, up_f, ne_eq, Nat.reduceEqDiff, Option.some.injEq, Prod.mk.injEq, exists_eq_left', reduceCtorEq, ob_43]
  refine trV_use (t_Model_judge g _ hC (hm.ms msu0)) ?_
  rintro h' ⟨q1, q2, q3, q4, p, x, q5⟩
  exact ⟨msu0.tr q1, _, _, _, q5⟩
theorem use_in {h : HP} {v lo hi : Int} {K : Int → HP → Prop} (k1 : (lo ≤ v ∧ v ≤ hi) → K 1 h) (k0 : ¬ (lo ≤ v ∧ v ≤ hi) → K 0 h) : ∃ Q : Int → HP → Prop, trI mModel_in [.inl v, .inl lo, .inl hi] SH0 h Q ∧ ∀ r h', Q r h' → K r h' := by
  refine use_p (t_Model_in h v lo hi) ?_
  by_cases e : lo ≤ v ∧ v ≤ hi
  · rw [b2, if_pos e]; exact k1 e
  · rw [b2, if_neg e]; exact k0 e
theorem use_b {q : MI} {as : List AV} {sh : SH} {h : HP} {c : Prop} {K : Int → HP → Prop} (ht : trI q as sh h (fun r h' => h' = h ∧ bP c r)) (k1 : c → K 1 h) (k0 : ¬ c → K 0 h) : ∃ Q : Int → HP → Prop, trI q as sh h Q ∧ ∀ r h', Q r h' → K r h' := by
  refine use_q ht ?_
  rintro r (⟨rfl, hr⟩ | ⟨rfl, hr⟩)
  · exact k1 hr
  · exact k0 hr
theorem one_ne : ¬ (1 : Int) = 0 := by decide
def sAt (i : Int) (g : HP) (r : Int) : Prop := (0 ≤ i ∧ i < g 19 4 ∧ r = g 20 i.toNat) ∨ (¬ (0 ≤ i ∧ i < g 19 4) ∧ r = -1)
set_option maxRecDepth 100000 in
set_option maxHeartbeats 4000000 in
theorem t_Help_at (h : HP) (hC : CI h) (i : Int) : trI mHelp_at [.inr (.inr 0), .inl i] SH0 h (roC (sAt i) h) := by
  have hL := hC.2.2.2.2
  have h92 := hL.2.1
  refine startI [some (.inr (.inr 0)), some (.inl i)] mHelp_at_c (go [9999] 400 (k := ?_))
  simp (config := {maxSteps := 1000000}) only [↓pI_c, ↓pR_c, ↓pJ_c, ↓pV_c, ↓popN_0, ↓popN_s, ↓lI_0, ↓lR_0, ↓lJ_0, ↓lI_s, ↓lR_s, ↓lJ_s, ↓okSt_0, ↓okSt_I, ↓okSt_R, ↓okSt_N, ↓okSt_s, ↓rtI_s, ↓rtV_n, ↓brP_t, ↓brP_f, ↓sHelp_at_0, ↓sHelp_at_1, ↓sHelp_at_4, ↓sHelp_at_5, ↓sHelp_at_6, ↓rf_0_7, ↓sHelp_at_9, ↓rf_19_4, ↓sHelp_at_12, ↓sHelp_at_15, ↓sHelp_at_16, ↓sHelp_at_19, ↓sHelp_at_20, ↓sHelp_at_23, ↓rf_19_0, ↓sHelp_at_26, ↓sHelp_at_27, ↓sHelp_at_28, ↓ln_20, List.set_cons_zero, List.set_cons_succ, List.length_cons, List.length_nil, List.contains_cons, List.contains_nil, cat1, brP_d, true_and, and_true, not_false_eq_true, not_true_eq_false, if_true, if_false, Bool.or_false, Bool.false_or, Bool.or_true, Bool.true_or, Bool.false_eq_true, Bool.or_self, false_implies, true_implies, forall_const, and_self, implies_true, true_or, or_true, or_false, false_or, or_self, Classical.not_not, Int.reduceAdd, Int.reduceSub, Int.reduceMul, Int.reduceNeg, Int.reduceToNat, Int.reduceLT, Int.reduceLE, Int.reduceEq, Int.reduceNe, Int.reduceNatCast', Nat.reduceAdd, Nat.reduceSub, Nat.reduceLeDiff, Nat.reduceLT, Nat.reduceEqDiff, Nat.reduceBEq, reduceIte, nx_w, nx_c, up_n, up_s, up_f, ne_eq, Nat.reduceEqDiff, Option.some.injEq, Prod.mk.injEq, exists_eq_left', reduceCtorEq]
  refine ⟨fun h1 => ?_, fun h1 => ⟨fun h2 => ?_, fun h2 => ?_⟩⟩
  all_goals first
    | exact ⟨by omega, KF.rf, Or.inl ⟨by omega, by omega, rfl⟩⟩
    | exact ⟨KF.rf, Or.inr ⟨by omega, rfl⟩⟩
set_option maxRecDepth 100000 in
set_option maxHeartbeats 4000000 in
theorem t_Model_at (g h : HP) (hC : CI g) (hm : CM g h) (i : Int) : trI mModel_at [.inr (.inr 43), .inl i] SH0 h (roM (sAt i g) h) := by
  have hL := hC.2.2.2.2
  have h92 := hL.2.1
  have h0 := hL.1
  have e18 := hm.2.2.2.2.1
  have e57 := hm.2.2.2.2.2.2
  refine startI [some (.inr (.inr 43)), some (.inl i)] mModel_at_c (go [9999] 400 (k := ?_))
  simp (config := {maxSteps := 1000000}) only [↓pI_c, ↓pR_c, ↓pJ_c, ↓pV_c, ↓popN_0, ↓popN_s, ↓lI_0, ↓lR_0, ↓lJ_0, ↓lI_s, ↓lR_s, ↓lJ_s, ↓okSt_0, ↓okSt_I, ↓okSt_R, ↓okSt_N, ↓okSt_s, ↓rtI_s, ↓rtV_n, ↓brP_t, ↓brP_f, ↓sModel_at_0, ↓sModel_at_1, ↓sModel_at_2, ↓rf_43_0, ↓sModel_at_5, ↓sModel_at_6, ↓sModel_at_7, ↓sModel_at_8, ↓rf_43_18, ↓sModel_at_11, ↓sModel_at_12, ↓sModel_at_13, ↓sModel_at_16, ↓sModel_at_19, ↓sModel_at_20, ↓rf_43_19, ↓sModel_at_23, ↓sModel_at_24, ↓sModel_at_25, ↓sModel_at_28, ↓sModel_at_29, ↓ln_57, List.set_cons_zero, List.set_cons_succ, List.length_cons, List.length_nil, List.contains_cons, List.contains_nil, cat1, brP_d, true_and, and_true, not_false_eq_true, not_true_eq_false, if_true, if_false, Bool.or_false, Bool.false_or, Bool.or_true, Bool.true_or, Bool.false_eq_true, Bool.or_self, false_implies, true_implies, forall_const, and_self, implies_true, true_or, or_true, or_false, false_or, or_self, Classical.not_not, Int.reduceAdd, Int.reduceSub, Int.reduceMul, Int.reduceNeg, Int.reduceToNat, Int.reduceLT, Int.reduceLE, Int.reduceEq, Int.reduceNe, Int.reduceNatCast', Nat.reduceAdd, Nat.reduceSub, Nat.reduceLeDiff, Nat.reduceLT, Nat.reduceEqDiff, Nat.reduceBEq, reduceIte, nx_w, nx_c, up_n, up_s, up_f, ne_eq, Nat.reduceEqDiff, Option.some.injEq, Prod.mk.injEq, exists_eq_left', reduceCtorEq, e18]
  rw [wr_id (x := g 19 4 - 1) (by omega) (by omega)]
  refine use_p (t_Model_in _ i 0 (g 19 4 - 1)) ?_
  by_cases hi : 0 ≤ i ∧ i < g 19 4
  · rw [b2, if_pos (by omega)]
    have := e57 i.toNat (by omega)
    simp only [show ¬ (1 : Int) = 0 by decide, not_false_eq_true, true_implies, false_implies, true_and]
    exact ⟨by omega, msu0, Or.inl ⟨hi.1, hi.2, this⟩⟩
  · rw [b2, if_neg (by omega)]
    simp only [not_true_eq_false, true_implies, false_implies, and_true]
    exact ⟨msu0, Or.inr ⟨hi, rfl⟩⟩
def sTyped (k what : Int) (g : HP) (r : Int) : Prop := ((0 ≤ k ∧ k < g 19 5) ∧ ((what = 0 ∧ r = g 22 k.toNat) ∨ (what = 1 ∧ r = g 23 k.toNat) ∨ (what = 2 ∧ r = wd g k.toNat))) ∨ (¬ ((0 ≤ k ∧ k < g 19 5) ∧ 0 ≤ what ∧ what ≤ 2) ∧ r = -2)
set_option maxRecDepth 100000 in
set_option maxHeartbeats 4000000 in
theorem t_Help_typed (h : HP) (hC : CI h) (k w : Int) : trI mHelp_typed [.inr (.inr 0), .inl k, .inl w] SH0 h (roC (sTyped k w) h) := by
  have hL := hC.2.2.2.2
  have h10 := hL.2.2.2.1.2.1
  refine startI [some (.inr (.inr 0)), some (.inl k), some (.inl w)] mHelp_typed_c (go [9999] 400 (k := ?_))
  simp (config := {maxSteps := 1000000}) only [↓pI_c, ↓pR_c, ↓pJ_c, ↓pV_c, ↓popN_0, ↓popN_s, ↓lI_0, ↓lR_0, ↓lJ_0, ↓lI_s, ↓lR_s, ↓lJ_s, ↓okSt_0, ↓okSt_I, ↓okSt_R, ↓okSt_N, ↓okSt_s, ↓rtI_s, ↓rtV_n, ↓brP_t, ↓brP_f, ↓sHelp_typed_0, ↓sHelp_typed_1, ↓sHelp_typed_4, ↓sHelp_typed_5, ↓sHelp_typed_6, ↓rf_0_7, ↓sHelp_typed_9, ↓rf_19_5, ↓sHelp_typed_12, ↓sHelp_typed_15, ↓sHelp_typed_17, ↓sHelp_typed_18, ↓sHelp_typed_19, ↓sHelp_typed_44, ↓sHelp_typed_45, ↓sHelp_typed_48, ↓rf_19_2, ↓sHelp_typed_51, ↓sHelp_typed_52, ↓sHelp_typed_53, ↓sHelp_typed_54, ↓sHelp_typed_55, ↓sHelp_typed_58, ↓rf_19_3, ↓sHelp_typed_61, ↓sHelp_typed_62, ↓sHelp_typed_63, ↓sHelp_typed_64, ↓sHelp_typed_65, ↓rf_0_8, ↓sHelp_typed_68, ↓sHelp_typed_69, ↓sHelp_typed_72, ↓sHelp_typed_73, ↓sHelp_typed_75, ↓ln_22, ↓ln_23, List.set_cons_zero, List.set_cons_succ, List.length_cons, List.length_nil, List.contains_cons, List.contains_nil, cat1, brP_d, true_and, and_true, not_false_eq_true, not_true_eq_false, if_true, if_false, Bool.or_false, Bool.false_or, Bool.or_true, Bool.true_or, Bool.false_eq_true, Bool.or_self, false_implies, true_implies, forall_const, and_self, implies_true, true_or, or_true, or_false, false_or, or_self, Classical.not_not, Int.reduceAdd, Int.reduceSub, Int.reduceMul, Int.reduceNeg, Int.reduceToNat, Int.reduceLT, Int.reduceLE, Int.reduceEq, Int.reduceNe, Int.reduceNatCast', Nat.reduceAdd, Nat.reduceSub, Nat.reduceLeDiff, Nat.reduceLT, Nat.reduceEqDiff, Nat.reduceBEq, reduceIte, nx_w, nx_c, up_n, up_s, up_f, ne_eq, Nat.reduceEqDiff, Option.some.injEq, Prod.mk.injEq, exists_eq_left', reduceCtorEq, ob_24]
  refine ⟨fun h1 => ⟨KF.rf, Or.inr ⟨by omega, rfl⟩⟩, fun h1 => ⟨fun h2 => ⟨⟨fun h3 => ⟨by omega, KF.rf, Or.inl ⟨by omega, Or.inl ⟨h3, rfl⟩⟩⟩, fun h3 => ⟨by omega, KF.rf, Or.inl ⟨by omega, Or.inr (Or.inl ⟨h3, rfl⟩)⟩⟩, fun h3 => ?_⟩, fun h3 => ⟨KF.rf, Or.inr ⟨by omega, rfl⟩⟩⟩, fun h2 => ⟨KF.rf, Or.inr ⟨by omega, rfl⟩⟩⟩⟩
  refine use_p (t_Read_wordOfTyped h k hC.2.1 hL (by omega)) ?_
  exact ⟨KF.rf, Or.inl ⟨by omega, Or.inr (Or.inr ⟨h3, rfl⟩)⟩⟩
set_option maxRecDepth 100000 in
set_option maxHeartbeats 4000000 in
theorem t_Model_typed (g h : HP) (hC : CI g) (hm : CM g h) (k w : Int) : trI mModel_typed [.inr (.inr 43), .inl k, .inl w] SH0 h (roM (sTyped k w g) h) := by
  have hL := hC.2.2.2.2
  have h10 := hL.2.2.2.1.2.1
  refine startI [some (.inr (.inr 43)), some (.inl k), some (.inl w)] mModel_typed_c (go [9999] 400 (k := ?_))
  simp (config := {maxSteps := 1000000}) only [↓pI_c, ↓pR_c, ↓pJ_c, ↓pV_c, ↓popN_0, ↓popN_s, ↓lI_0, ↓lR_0, ↓lJ_0, ↓lI_s, ↓lR_s, ↓lJ_s, ↓okSt_0, ↓okSt_I, ↓okSt_R, ↓okSt_N, ↓okSt_s, ↓rtI_s, ↓rtV_n, ↓brP_t, ↓brP_f, ↓sModel_typed_0, ↓sModel_typed_1, ↓sModel_typed_2, ↓rf_43_0, ↓sModel_typed_5, ↓sModel_typed_6, ↓sModel_typed_9, ↓sModel_typed_10, ↓sModel_typed_11, ↓sModel_typed_12, ↓rf_43_22, ↓sModel_typed_15, ↓sModel_typed_16, ↓sModel_typed_17, ↓sModel_typed_20, ↓sModel_typed_23, ↓sModel_typed_24, ↓sModel_typed_25, ↓sModel_typed_26, ↓sModel_typed_29, ↓sModel_typed_32, ↓sModel_typed_34, ↓sModel_typed_35, ↓sModel_typed_36, ↓sModel_typed_39, ↓sModel_typed_40, ↓rf_43_23, ↓sModel_typed_43, ↓sModel_typed_44, ↓sModel_typed_45, ↓sModel_typed_48, ↓sModel_typed_49, ↓sModel_typed_50, ↓sModel_typed_53, ↓sModel_typed_54, ↓rf_43_24, ↓sModel_typed_57, ↓sModel_typed_58, ↓sModel_typed_59, ↓sModel_typed_62, ↓sModel_typed_63, ↓rf_43_25, ↓sModel_typed_66, ↓sModel_typed_67, ↓sModel_typed_68, ↓ln_59, ↓ln_60, ↓ln_61, List.set_cons_zero, List.set_cons_succ, List.length_cons, List.length_nil, List.contains_cons, List.contains_nil, cat1, brP_d, true_and, and_true, not_false_eq_true, not_true_eq_false, if_true, if_false, Bool.or_false, Bool.false_or, Bool.or_true, Bool.true_or, Bool.false_eq_true, Bool.or_self, false_implies, true_implies, forall_const, and_self, implies_true, true_or, or_true, or_false, false_or, or_self, Classical.not_not, Int.reduceAdd, Int.reduceSub, Int.reduceMul, Int.reduceNeg, Int.reduceToNat, Int.reduceLT, Int.reduceLE, Int.reduceEq, Int.reduceNe, Int.reduceNatCast', Nat.reduceAdd, Nat.reduceSub, Nat.reduceLeDiff, Nat.reduceLT, Nat.reduceEqDiff, Nat.reduceBEq, reduceIte, nx_w, nx_c, up_n, up_s, up_f, ne_eq, Nat.reduceEqDiff, Option.some.injEq, Prod.mk.injEq, exists_eq_left', reduceCtorEq, ob_43]
  refine trV_use (t_Model_partG g _ hC (hm.ms msu0)) ?_
  rintro h1 ⟨p1, p2, p3⟩
  rw [p2]
  have hms : MS h h1 := msu0.tr (MS.prF p1)
  have h0 := hL.2.2.2.1.1
  rw [wr_id (x := g 19 5 - 1) (by omega) (by omega)]
  refine use_in (fun e1 => ?_) (fun e1 => ?_)
  · simp only [one_ne, not_false_eq_true, true_implies, false_implies, true_and]
    obtain ⟨r1, r2, r3⟩ := p3 k.toNat (by omega)
    refine use_in (fun e2 => ?_) (fun e2 => ?_)
    · simp only [one_ne, not_false_eq_true, true_implies, false_implies, and_true, r1, r2, r3]
      refine ⟨fun h2 => ⟨fun h3 => ⟨by omega, hms, Or.inl ⟨by omega, Or.inr (Or.inr ⟨by omega, rfl⟩)⟩⟩, fun h3 => ⟨by omega, hms, Or.inl ⟨by omega, Or.inr (Or.inl ⟨h3, rfl⟩)⟩⟩⟩, fun h2 => ⟨by omega, hms, Or.inl ⟨by omega, Or.inl ⟨h2, rfl⟩⟩⟩⟩
    · simp only [not_true_eq_false, true_implies, false_implies, true_and]
      exact ⟨hms, Or.inr ⟨by omega, rfl⟩⟩
  · simp only [not_true_eq_false, true_implies, false_implies, and_true]
    exact ⟨hms, Or.inr ⟨by omega, rfl⟩⟩
def sCount (w : Int) (g : HP) (r : Int) : Prop := r = if w = 0 then g 10 4 else if w = 1 then g 15 3 else if w = 2 then g 6 3 else if w = 3 then g 36 4 else if w = 4 then g 0 1 else if w = 5 then g 19 4 else if w = 6 then g 19 5 else -2
set_option maxRecDepth 100000 in
set_option maxHeartbeats 4000000 in
theorem t_Help_count (h : HP) (w : Int) : trI mHelp_count [.inr (.inr 0), .inl w] SH0 h (roC (sCount w) h) := by
  refine startI [some (.inr (.inr 0)), some (.inl w)] mHelp_count_c (go [9999] 400 (k := ?_))
  simp (config := {maxSteps := 1000000}) only [↓pI_c, ↓pR_c, ↓pJ_c, ↓pV_c, ↓popN_0, ↓popN_s, ↓lI_0, ↓lR_0, ↓lJ_0, ↓lI_s, ↓lR_s, ↓lJ_s, ↓okSt_0, ↓okSt_I, ↓okSt_R, ↓okSt_N, ↓okSt_s, ↓rtI_s, ↓rtV_n, ↓brP_t, ↓brP_f, ↓sHelp_count_0, ↓sHelp_count_1, ↓sHelp_count_44, ↓sHelp_count_45, ↓rf_0_5, ↓sHelp_count_48, ↓rf_10_4, ↓sHelp_count_51, ↓sHelp_count_52, ↓sHelp_count_53, ↓rf_0_6, ↓sHelp_count_56, ↓rf_15_3, ↓sHelp_count_59, ↓sHelp_count_60, ↓sHelp_count_61, ↓rf_0_4, ↓sHelp_count_64, ↓rf_6_3, ↓sHelp_count_67, ↓sHelp_count_68, ↓sHelp_count_69, ↓rf_0_11, ↓sHelp_count_72, ↓rf_36_4, ↓sHelp_count_75, ↓sHelp_count_76, ↓sHelp_count_77, ↓rf_0_1, ↓sHelp_count_80, ↓sHelp_count_81, ↓sHelp_count_82, ↓rf_0_7, ↓sHelp_count_85, ↓rf_19_4, ↓sHelp_count_88, ↓sHelp_count_89, ↓sHelp_count_90, ↓sHelp_count_93, ↓rf_19_5, ↓sHelp_count_96, ↓sHelp_count_97, ↓sHelp_count_99, List.set_cons_zero, List.set_cons_succ, List.length_cons, List.length_nil, List.contains_cons, List.contains_nil, cat1, brP_d, true_and, and_true, not_false_eq_true, not_true_eq_false, if_true, if_false, Bool.or_false, Bool.false_or, Bool.or_true, Bool.true_or, Bool.false_eq_true, Bool.or_self, false_implies, true_implies, forall_const, and_self, implies_true, true_or, or_true, or_false, false_or, or_self, Classical.not_not, Int.reduceAdd, Int.reduceSub, Int.reduceMul, Int.reduceNeg, Int.reduceToNat, Int.reduceLT, Int.reduceLE, Int.reduceEq, Int.reduceNe, Int.reduceNatCast', Nat.reduceAdd, Nat.reduceSub, Nat.reduceLeDiff, Nat.reduceLT, Nat.reduceEqDiff, Nat.reduceBEq, reduceIte, nx_w, nx_c, up_n, up_s, up_f, ne_eq, Nat.reduceEqDiff, Option.some.injEq, Prod.mk.injEq, exists_eq_left', reduceCtorEq]
  simp only [roC, sCount]
  have := @KF.rf h
  grind
set_option maxRecDepth 100000 in
set_option maxHeartbeats 4000000 in
theorem t_Model_count (g h : HP) (hC : CI g) (hm : CM g h) (e1 : h 43 39 = g 36 4) (e2 : h 43 16 = g 0 1) (w : Int) : trI mModel_count [.inr (.inr 43), .inl w] SH0 h (roM (sCount w g) h) := by
  refine startI [some (.inr (.inr 43)), some (.inl w)] mModel_count_c (go [9999] 400 (k := ?_))
  simp (config := {maxSteps := 1000000}) only [↓pI_c, ↓pR_c, ↓pJ_c, ↓pV_c, ↓popN_0, ↓popN_s, ↓lI_0, ↓lR_0, ↓lJ_0, ↓lI_s, ↓lR_s, ↓lJ_s, ↓okSt_0, ↓okSt_I, ↓okSt_R, ↓okSt_N, ↓okSt_s, ↓rtI_s, ↓rtV_n, ↓brP_t, ↓brP_f, ↓sModel_count_0, ↓sModel_count_1, ↓sModel_count_2, ↓rf_43_0, ↓sModel_count_5, ↓sModel_count_6, ↓sModel_count_9, ↓sModel_count_10, ↓sModel_count_13, ↓sModel_count_14, ↓rf_43_1, ↓sModel_count_17, ↓sModel_count_20, ↓sModel_count_21, ↓sModel_count_22, ↓sModel_count_25, ↓sModel_count_26, ↓rf_43_10, ↓sModel_count_29, ↓sModel_count_32, ↓sModel_count_33, ↓sModel_count_34, ↓sModel_count_37, ↓sModel_count_38, ↓rf_43_6, ↓sModel_count_41, ↓sModel_count_44, ↓sModel_count_45, ↓sModel_count_46, ↓sModel_count_49, ↓sModel_count_50, ↓rf_43_39, ↓sModel_count_53, ↓sModel_count_56, ↓sModel_count_57, ↓sModel_count_58, ↓sModel_count_61, ↓sModel_count_62, ↓rf_43_16, ↓sModel_count_65, ↓sModel_count_68, ↓sModel_count_69, ↓sModel_count_70, ↓sModel_count_73, ↓sModel_count_74, ↓rf_43_18, ↓sModel_count_77, ↓sModel_count_80, ↓sModel_count_81, ↓sModel_count_83, ↓sModel_count_86, ↓sModel_count_87, ↓rf_43_22, ↓sModel_count_90, ↓sModel_count_93, ↓sModel_count_95, List.set_cons_zero, List.set_cons_succ, List.length_cons, List.length_nil, List.contains_cons, List.contains_nil, cat1, brP_d, true_and, and_true, not_false_eq_true, not_true_eq_false, if_true, if_false, Bool.or_false, Bool.false_or, Bool.or_true, Bool.true_or, Bool.false_eq_true, Bool.or_self, false_implies, true_implies, forall_const, and_self, implies_true, true_or, or_true, or_false, false_or, or_self, Classical.not_not, Int.reduceAdd, Int.reduceSub, Int.reduceMul, Int.reduceNeg, Int.reduceToNat, Int.reduceLT, Int.reduceLE, Int.reduceEq, Int.reduceNe, Int.reduceNatCast', Nat.reduceAdd, Nat.reduceSub, Nat.reduceLeDiff, Nat.reduceLT, Nat.reduceEqDiff, Nat.reduceBEq, reduceIte, nx_w, nx_c, up_n, up_s, up_f, ne_eq, Nat.reduceEqDiff, Option.some.injEq, Prod.mk.injEq, exists_eq_left', reduceCtorEq, ob_43]
  refine trV_use (t_Model_partG g _ hC (hm.ms msu0)) ?_
  rintro h1 ⟨p1, p2, p3⟩
  have hms : MS h h1 := msu0.tr (MS.prF p1)
  have hm1 := hm.ms hms
  have f1 := hm1.1.1
  have f2 := hm1.2.1.1
  have f3 := hm1.2.2.1.1
  have f4 := hm1.2.2.2.2.1
  have f5 := (hms.2 43 39 rfl).trans e1
  have f6 := (hms.2 43 16 rfl).trans e2
  simp only [f1, f2, f3, f4, f5, f6, p2, roM, hms, true_and, sCount]
  grind
