/-! the verbs that take a thing -/
def tkR (g : HP) (th : Int) (w r : Nat) : Prop := g 16 r = w ∧ ∃ t : Nat, (t : Int) < g 17 r ∧ asP g th (g 18 (4 * r + t))
def tkP (g : HP) (th : Int) (w : Nat) : Prop := ∃ r : Nat, (r : Int) < g 15 3 ∧ tkR g th w r
set_option maxRecDepth 100000 in
set_option maxHeartbeats 4000000 in
theorem t2_Help_takes (h : HP) (hC : CI h) (th : Int) (w r : Nat) (hr : (r : Int) < h 15 3) (e16 : h 16 r = w) (P : HP → Prop) (hX : ¬ tkR h th w r → ∀ x4, Wn Z4 mHelp_takes SH0 2 [some (.inr (.inr 0)), some (.inl w), some (.inl th), some (.inl (r + 1)), x4] [] h (rtI (fun x h' => h' = h ∧ bP (tkP h th w) x))) : ∀ (d t : Nat), h 17 r - t < d → (t : Int) ≤ h 17 r → (∀ j : Nat, j < t → ¬ asP h th (h 18 (4 * r + j))) → Wn Z4 mHelp_takes SH0 32 [some (.inr (.inr 0)), some (.inl w), some (.inl th), some (.inl r), some (.inl t)] [] h (rtI (fun x h' => h' = h ∧ bP (tkP h th w) x)) := by
  have hR := hC.2.2.1
  have h40 := hR.2.1
  have l4 := hR.2.2.2 r (by omega)
  have er : ((r : Int)).toNat = r := by omega
  intro d
  induction d with
  | zero => intro t h1 h2; omega
  | succ d ih =>
    intro t h1 h2 h3
    have et : ((t : Int)).toNat = t := by omega
    refine go [2,32] 400 (k := ?_)
    simp (config := {maxSteps := 1000000}) only [↓pI_c, ↓pR_c, ↓pJ_c, ↓pV_c, ↓popN_0, ↓popN_s, ↓lI_0, ↓lR_0, ↓lJ_0, ↓lI_s, ↓lR_s, ↓lJ_s, ↓okSt_0, ↓okSt_I, ↓okSt_R, ↓okSt_N, ↓okSt_s, ↓rtI_s, ↓rtV_n, ↓brP_t, ↓brP_f, ↓sHelp_takes_0, ↓sHelp_takes_1, ↓sHelp_takes_2, ↓sHelp_takes_3, ↓sHelp_takes_4, ↓rf_0_6, ↓sHelp_takes_7, ↓rf_15_3, ↓sHelp_takes_10, ↓sHelp_takes_13, ↓sHelp_takes_14, ↓sHelp_takes_17, ↓rf_15_0, ↓sHelp_takes_20, ↓sHelp_takes_21, ↓sHelp_takes_22, ↓sHelp_takes_23, ↓sHelp_takes_26, ↓sHelp_takes_29, ↓sHelp_takes_30, ↓sHelp_takes_32, ↓sHelp_takes_34, ↓sHelp_takes_35, ↓sHelp_takes_38, ↓rf_15_1, ↓sHelp_takes_41, ↓sHelp_takes_42, ↓sHelp_takes_43, ↓sHelp_takes_46, ↓sHelp_takes_47, ↓rf_0_5, ↓sHelp_takes_50, ↓sHelp_takes_51, ↓sHelp_takes_52, ↓sHelp_takes_55, ↓sHelp_takes_56, ↓sHelp_takes_58, ↓sHelp_takes_61, ↓sHelp_takes_64, ↓sHelp_takes_67, ↓sHelp_takes_68, ↓sHelp_takes_69, ↓sHelp_takes_72, ↓sHelp_takes_75, ↓sHelp_takes_78, ↓sHelp_takes_81, ↓sHelp_takes_82, ↓ln_16, ↓ln_17, List.set_cons_zero, List.set_cons_succ, List.length_cons, List.length_nil, List.contains_cons, List.contains_nil, cat1, brP_d, true_and, and_true, not_false_eq_true, not_true_eq_false, if_true, if_false, Bool.or_false, Bool.false_or, Bool.or_true, Bool.true_or, Bool.false_eq_true, Bool.or_self, false_implies, true_implies, forall_const, and_self, implies_true, true_or, or_true, or_false, false_or, or_self, Classical.not_not, Int.reduceAdd, Int.reduceSub, Int.reduceMul, Int.reduceNeg, Int.reduceToNat, Int.reduceLT, Int.reduceLE, Int.reduceEq, Int.reduceNe, Int.reduceNatCast', Nat.reduceAdd, Nat.reduceSub, Nat.reduceLeDiff, Nat.reduceLT, Nat.reduceEqDiff, Nat.reduceBEq, reduceIte, nx_w, nx_c, up_n, up_s, up_f, ne_eq, Nat.reduceEqDiff, Option.some.injEq, Prod.mk.injEq, exists_eq_left', reduceCtorEq, ob_15, ob_10, er]
    rw [wr_id (x := (r : Int) + 1) (by omega) (by omega), wr_id (x := (t : Int) + 1) (by omega) (by omega)]
    refine ⟨by omega, fun c1 => hX (fun z => ?_) _, fun c1 => ?_⟩
    · obtain ⟨_, t', z1, z2⟩ := z
      exact h3 t' (by omega) z2
    · refine use_p (t_Rules_tokenAt h r t (by omega) (by omega)) ?_
      rw [er, et]
      refine use_b (t_Words_isAs h th _ ⟨hC.1.1, hC.1.2.1⟩) (fun hc => ?_) (fun hc => ?_)
      · simp only [one_ne, not_false_eq_true, true_implies, false_implies, true_and, and_true]
        exact Or.inl ⟨rfl, r, hr, e16, t, by omega, hc⟩
      · simp only [not_true_eq_false, true_implies, false_implies, true_and, and_true]
        have := ih (t + 1) (by push_cast; omega) (by push_cast; omega) (fun j hj => by
          by_cases e : j = t
          · rw [e]; exact hc
          · exact h3 j (by omega))
        push_cast at this
        exact this
set_option maxRecDepth 100000 in
set_option maxHeartbeats 4000000 in
theorem l_Help_takes (h : HP) (hC : CI h) (th : Int) (w : Nat) : ∀ (d r : Nat) (x4 : Option AV), h 15 3 - r < d → (r : Int) ≤ h 15 3 → (∀ j : Nat, j < r → ¬ tkR h th w j) → Wn Z4 mHelp_takes SH0 2 [some (.inr (.inr 0)), some (.inl w), some (.inl th), some (.inl r), x4] [] h (rtI (fun x h' => h' = h ∧ bP (tkP h th w) x)) := by
  have hR := hC.2.2.1
  have h40 := hR.2.1
  intro d
  induction d with
  | zero => intro r x4 h1 h2; omega
  | succ d ih =>
    intro r x4 h1 h2 h3
    have er : ((r : Int)).toNat = r := by omega
    have nx : ¬ h 15 3 ≤ r → ¬ tkR h th w r → ∀ x4, Wn Z4 mHelp_takes SH0 2 [some (.inr (.inr 0)), some (.inl w), some (.inl th), some (.inl (r + 1)), x4] [] h (rtI (fun x h' => h' = h ∧ bP (tkP h th w) x)) := fun c1 z x4 => by
      have := ih (r + 1) x4 (by push_cast; omega) (by push_cast; omega) (fun j hj => by
        by_cases e : j = r
        · rw [e]; exact z
        · exact h3 j (by omega))
      push_cast at this
      exact this
    refine go [2,32] 400 (k := ?_)
    simp (config := {maxSteps := 1000000}) only [↓pI_c, ↓pR_c, ↓pJ_c, ↓pV_c, ↓popN_0, ↓popN_s, ↓lI_0, ↓lR_0, ↓lJ_0, ↓lI_s, ↓lR_s, ↓lJ_s, ↓okSt_0, ↓okSt_I, ↓okSt_R, ↓okSt_N, ↓okSt_s, ↓rtI_s, ↓rtV_n, ↓brP_t, ↓brP_f, ↓sHelp_takes_0, ↓sHelp_takes_1, ↓sHelp_takes_2, ↓sHelp_takes_3, ↓sHelp_takes_4, ↓rf_0_6, ↓sHelp_takes_7, ↓rf_15_3, ↓sHelp_takes_10, ↓sHelp_takes_13, ↓sHelp_takes_14, ↓sHelp_takes_17, ↓rf_15_0, ↓sHelp_takes_20, ↓sHelp_takes_21, ↓sHelp_takes_22, ↓sHelp_takes_23, ↓sHelp_takes_26, ↓sHelp_takes_29, ↓sHelp_takes_30, ↓sHelp_takes_32, ↓sHelp_takes_34, ↓sHelp_takes_35, ↓sHelp_takes_38, ↓rf_15_1, ↓sHelp_takes_41, ↓sHelp_takes_42, ↓sHelp_takes_43, ↓sHelp_takes_46, ↓sHelp_takes_47, ↓rf_0_5, ↓sHelp_takes_50, ↓sHelp_takes_51, ↓sHelp_takes_52, ↓sHelp_takes_55, ↓sHelp_takes_56, ↓sHelp_takes_58, ↓sHelp_takes_61, ↓sHelp_takes_64, ↓sHelp_takes_67, ↓sHelp_takes_68, ↓sHelp_takes_69, ↓sHelp_takes_72, ↓sHelp_takes_75, ↓sHelp_takes_78, ↓sHelp_takes_81, ↓sHelp_takes_82, ↓ln_16, ↓ln_17, List.set_cons_zero, List.set_cons_succ, List.length_cons, List.length_nil, List.contains_cons, List.contains_nil, cat1, brP_d, true_and, and_true, not_false_eq_true, not_true_eq_false, if_true, if_false, Bool.or_false, Bool.false_or, Bool.or_true, Bool.true_or, Bool.false_eq_true, Bool.or_self, false_implies, true_implies, forall_const, and_self, implies_true, true_or, or_true, or_false, false_or, or_self, Classical.not_not, Int.reduceAdd, Int.reduceSub, Int.reduceMul, Int.reduceNeg, Int.reduceToNat, Int.reduceLT, Int.reduceLE, Int.reduceEq, Int.reduceNe, Int.reduceNatCast', Nat.reduceAdd, Nat.reduceSub, Nat.reduceLeDiff, Nat.reduceLT, Nat.reduceEqDiff, Nat.reduceBEq, reduceIte, nx_w, nx_c, up_n, up_s, up_f, ne_eq, Nat.reduceEqDiff, Option.some.injEq, Prod.mk.injEq, exists_eq_left', reduceCtorEq, ob_15, ob_10, er]
    rw [wr_id (x := (r : Int) + 1) (by omega) (by omega)]
    refine ⟨fun c1 => Or.inr ⟨rfl, fun ⟨q, q1, q2⟩ => h3 q (by omega) q2⟩, fun c1 => ⟨by omega, fun c2 => ?_, fun c2 => nx c1 (fun z => c2 z.1) _⟩⟩
    have l4 := hR.2.2.2 r (by omega)
    exact t2_Help_takes h hC th w r (by omega) c2 (fun _ => True) (nx c1) ((h 17 r).toNat + 1) 0 (by push_cast; omega) (by push_cast; omega) (fun j hj => absurd hj (Nat.not_lt_zero j))
set_option maxRecDepth 100000 in
set_option maxHeartbeats 4000000 in
theorem t_Help_takes (h : HP) (hC : CI h) (th : Int) (w : Nat) : trI mHelp_takes [.inr (.inr 0), .inl w, .inl th] SH0 h (fun x h' => h' = h ∧ bP (tkP h th w) x) := by
  have h0 := hC.2.2.1.1
  refine startI [some (.inr (.inr 0)), some (.inl w), some (.inl th), none, none] mHelp_takes_c (go [2] 400 (k := ?_))
  simp (config := {maxSteps := 1000000}) only [↓pI_c, ↓pR_c, ↓pJ_c, ↓pV_c, ↓popN_0, ↓popN_s, ↓lI_0, ↓lR_0, ↓lJ_0, ↓lI_s, ↓lR_s, ↓lJ_s, ↓okSt_0, ↓okSt_I, ↓okSt_R, ↓okSt_N, ↓okSt_s, ↓rtI_s, ↓rtV_n, ↓brP_t, ↓brP_f, ↓sHelp_takes_0, ↓sHelp_takes_1, ↓sHelp_takes_2, ↓sHelp_takes_3, ↓sHelp_takes_4, ↓rf_0_6, ↓sHelp_takes_7, ↓rf_15_3, ↓sHelp_takes_10, ↓sHelp_takes_13, ↓sHelp_takes_14, ↓sHelp_takes_17, ↓rf_15_0, ↓sHelp_takes_20, ↓sHelp_takes_21, ↓sHelp_takes_22, ↓sHelp_takes_23, ↓sHelp_takes_26, ↓sHelp_takes_29, ↓sHelp_takes_30, ↓sHelp_takes_32, ↓sHelp_takes_34, ↓sHelp_takes_35, ↓sHelp_takes_38, ↓rf_15_1, ↓sHelp_takes_41, ↓sHelp_takes_42, ↓sHelp_takes_43, ↓sHelp_takes_46, ↓sHelp_takes_47, ↓rf_0_5, ↓sHelp_takes_50, ↓sHelp_takes_51, ↓sHelp_takes_52, ↓sHelp_takes_55, ↓sHelp_takes_56, ↓sHelp_takes_58, ↓sHelp_takes_61, ↓sHelp_takes_64, ↓sHelp_takes_67, ↓sHelp_takes_68, ↓sHelp_takes_69, ↓sHelp_takes_72, ↓sHelp_takes_75, ↓sHelp_takes_78, ↓sHelp_takes_81, ↓sHelp_takes_82, ↓ln_16, ↓ln_17, List.set_cons_zero, List.set_cons_succ, List.length_cons, List.length_nil, List.contains_cons, List.contains_nil, cat1, brP_d, true_and, and_true, not_false_eq_true, not_true_eq_false, if_true, if_false, Bool.or_false, Bool.false_or, Bool.or_true, Bool.true_or, Bool.false_eq_true, Bool.or_self, false_implies, true_implies, forall_const, and_self, implies_true, true_or, or_true, or_false, false_or, or_self, Classical.not_not, Int.reduceAdd, Int.reduceSub, Int.reduceMul, Int.reduceNeg, Int.reduceToNat, Int.reduceLT, Int.reduceLE, Int.reduceEq, Int.reduceNe, Int.reduceNatCast', Nat.reduceAdd, Nat.reduceSub, Nat.reduceLeDiff, Nat.reduceLT, Nat.reduceEqDiff, Nat.reduceBEq, reduceIte, nx_w, nx_c, up_n, up_s, up_f, ne_eq, Nat.reduceEqDiff, Option.some.injEq, Prod.mk.injEq, exists_eq_left', reduceCtorEq, ob_15, ob_10]
  exact l_Help_takes h hC th w ((h 15 3).toNat + 1) 0 _ (by push_cast; omega) (by push_cast; omega) (fun j hj => absurd hj (Nat.not_lt_zero j))
def sVerbs (th i : Int) (g : HP) (r : Int) : Prop := (¬ isK g th 1 ∧ r = -2) ∨ (isK g th 1 ∧ pkP (tkP g th) (g 10 4) i r (-1))
theorem sVerbs_uni {g : HP} {th i r r' : Int} (h : sVerbs th i g r) (h' : sVerbs th i g r') : r = r' := by
  rcases h with ⟨a1, a2⟩ | ⟨a1, a2⟩
  · rcases h' with ⟨b1, b2⟩ | ⟨b1, b2⟩
    · omega
    · exact absurd b1 a1
  · rcases h' with ⟨b1, b2⟩ | ⟨b1, b2⟩
    · exact absurd a1 b1
    · exact pkP_uni a2 b2
set_option maxRecDepth 100000 in
set_option maxHeartbeats 4000000 in
theorem l_Help_verbs (h : HP) (hC : CI h) (th i : Int) (hk : isK h th 1) : ∀ (d w : Nat), h 10 4 - w < d → (w : Int) ≤ h 10 4 → (∀ u : Nat, u < w → tkP h th u → ¬ cntP (tkP h th) u = i) → Wn Z4 mHelp_verbs SH0 20 [some (.inr (.inr 0)), some (.inl th), some (.inl i), some (.inl (cntP (tkP h th) w)), some (.inl w)] [] h (rtI (roC (sVerbs th i) h)) := by
  have h60 := hC.1.2.1
  intro d
  induction d with
  | zero => intro w h1 h2; omega
  | succ d ih =>
    intro w h1 h2 h3
    have hin := cntP_in (tkP h th) w
    refine go [20] 400 (k := ?_)
    simp (config := {maxSteps := 1000000}) only [↓pI_c, ↓pR_c, ↓pJ_c, ↓pV_c, ↓popN_0, ↓popN_s, ↓lI_0, ↓lR_0, ↓lJ_0, ↓lI_s, ↓lR_s, ↓lJ_s, ↓okSt_0, ↓okSt_I, ↓okSt_R, ↓okSt_N, ↓okSt_s, ↓rtI_s, ↓rtV_n, ↓brP_t, ↓brP_f, ↓sHelp_verbs_0, ↓sHelp_verbs_1, ↓rf_0_5, ↓sHelp_verbs_4, ↓sHelp_verbs_5, ↓sHelp_verbs_6, ↓sHelp_verbs_9, ↓sHelp_verbs_12, ↓sHelp_verbs_14, ↓sHelp_verbs_15, ↓sHelp_verbs_16, ↓sHelp_verbs_17, ↓sHelp_verbs_18, ↓sHelp_verbs_20, ↓sHelp_verbs_22, ↓sHelp_verbs_23, ↓sHelp_verbs_26, ↓rf_10_4, ↓sHelp_verbs_29, ↓sHelp_verbs_32, ↓sHelp_verbs_33, ↓sHelp_verbs_35, ↓sHelp_verbs_36, ↓sHelp_verbs_39, ↓sHelp_verbs_42, ↓sHelp_verbs_43, ↓sHelp_verbs_44, ↓sHelp_verbs_47, ↓sHelp_verbs_49, ↓sHelp_verbs_50, ↓sHelp_verbs_53, ↓sHelp_verbs_56, ↓sHelp_verbs_59, ↓sHelp_verbs_60, List.set_cons_zero, List.set_cons_succ, List.length_cons, List.length_nil, List.contains_cons, List.contains_nil, cat1, brP_d, true_and, and_true, not_false_eq_true, not_true_eq_false, if_true, if_false, Bool.or_false, Bool.false_or, Bool.or_true, Bool.true_or, Bool.false_eq_true, Bool.or_self, false_implies, true_implies, forall_const, and_self, implies_true, true_or, or_true, or_false, false_or, or_self, Classical.not_not, Int.reduceAdd, Int.reduceSub, Int.reduceMul, Int.reduceNeg, Int.reduceToNat, Int.reduceLT, Int.reduceLE, Int.reduceEq, Int.reduceNe, Int.reduceNatCast', Nat.reduceAdd, Nat.reduceSub, Nat.reduceLeDiff, Nat.reduceLT, Nat.reduceEqDiff, Nat.reduceBEq, reduceIte, nx_w, nx_c, up_n, up_s, up_f, ne_eq, Nat.reduceEqDiff, Option.some.injEq, Prod.mk.injEq, exists_eq_left', reduceCtorEq, ob_10, ob_0]
    rw [wr_id (x := (w : Int) + 1) (by omega) (by omega), wr_id (x := cntP (tkP h th) w + 1) (by omega) (by omega)]
    refine ⟨fun c1 => ⟨KF.rf, Or.inr ⟨hk, Or.inr ⟨fun u hu => h3 u (by omega), rfl⟩⟩⟩, fun c1 => ?_⟩
    have hi := ih (w + 1) (by push_cast; omega) (by push_cast; omega)
    push_cast at hi
    refine use_b (t_Help_takes h hC th w) (fun hc => ?_) (fun hc => ?_)
    · simp only [one_ne, not_false_eq_true, true_implies, false_implies, true_and, and_true]
      rw [cntP_y hc] at hi
      refine ⟨fun c2 => hi (fun u hu hp => ?_), fun c2 => ⟨KF.rf, Or.inr ⟨hk, Or.inl ⟨w, by omega, hc, c2, rfl⟩⟩⟩⟩
      by_cases e : u = w
      · rw [e]; exact c2
      · exact h3 u (by omega) hp
    · simp only [not_true_eq_false, true_implies, false_implies, true_and, and_true]
      rw [cntP_n hc] at hi
      refine hi (fun u hu hp => ?_)
      by_cases e : u = w
      · rw [e] at hp; exact absurd hp hc
      · exact h3 u (by omega) hp
set_option maxRecDepth 100000 in
set_option maxHeartbeats 4000000 in
theorem t_Help_verbs (h : HP) (hC : CI h) (th i : Int) : trI mHelp_verbs [.inr (.inr 0), .inl th, .inl i] SH0 h (roC (sVerbs th i) h) := by
  have h0 := hC.1.1
  refine startI [some (.inr (.inr 0)), some (.inl th), some (.inl i), none, none] mHelp_verbs_c (go [20] 400 (k := ?_))
  simp (config := {maxSteps := 1000000}) only [↓pI_c, ↓pR_c, ↓pJ_c, ↓pV_c, ↓popN_0, ↓popN_s, ↓lI_0, ↓lR_0, ↓lJ_0, ↓lI_s, ↓lR_s, ↓lJ_s, ↓okSt_0, ↓okSt_I, ↓okSt_R, ↓okSt_N, ↓okSt_s, ↓rtI_s, ↓rtV_n, ↓brP_t, ↓brP_f, ↓sHelp_verbs_0, ↓sHelp_verbs_1, ↓rf_0_5, ↓sHelp_verbs_4, ↓sHelp_verbs_5, ↓sHelp_verbs_6, ↓sHelp_verbs_9, ↓sHelp_verbs_12, ↓sHelp_verbs_14, ↓sHelp_verbs_15, ↓sHelp_verbs_16, ↓sHelp_verbs_17, ↓sHelp_verbs_18, ↓sHelp_verbs_20, ↓sHelp_verbs_22, ↓sHelp_verbs_23, ↓sHelp_verbs_26, ↓rf_10_4, ↓sHelp_verbs_29, ↓sHelp_verbs_32, ↓sHelp_verbs_33, ↓sHelp_verbs_35, ↓sHelp_verbs_36, ↓sHelp_verbs_39, ↓sHelp_verbs_42, ↓sHelp_verbs_43, ↓sHelp_verbs_44, ↓sHelp_verbs_47, ↓sHelp_verbs_49, ↓sHelp_verbs_50, ↓sHelp_verbs_53, ↓sHelp_verbs_56, ↓sHelp_verbs_59, ↓sHelp_verbs_60, List.set_cons_zero, List.set_cons_succ, List.length_cons, List.length_nil, List.contains_cons, List.contains_nil, cat1, brP_d, true_and, and_true, not_false_eq_true, not_true_eq_false, if_true, if_false, Bool.or_false, Bool.false_or, Bool.or_true, Bool.true_or, Bool.false_eq_true, Bool.or_self, false_implies, true_implies, forall_const, and_self, implies_true, true_or, or_true, or_false, false_or, or_self, Classical.not_not, Int.reduceAdd, Int.reduceSub, Int.reduceMul, Int.reduceNeg, Int.reduceToNat, Int.reduceLT, Int.reduceLE, Int.reduceEq, Int.reduceNe, Int.reduceNatCast', Nat.reduceAdd, Nat.reduceSub, Nat.reduceLeDiff, Nat.reduceLT, Nat.reduceEqDiff, Nat.reduceBEq, reduceIte, nx_w, nx_c, up_n, up_s, up_f, ne_eq, Nat.reduceEqDiff, Option.some.injEq, Prod.mk.injEq, exists_eq_left', reduceCtorEq, ob_10, ob_0]
  refine use_p (t_Words_isOf h th 1 hC.1.2.1) ?_
  by_cases e : 0 ≤ th ∧ th < h 10 4 ∧ h 11 th.toNat = 1
  · simp only [b2, if_pos e, one_ne, not_false_eq_true, true_implies, false_implies, true_and, and_true]
    exact l_Help_verbs h hC th i e ((h 10 4).toNat + 1) 0 (by push_cast; omega) (by push_cast; omega) (fun j hj => absurd hj (Nat.not_lt_zero j))
  · simp only [b2, if_neg e, not_true_eq_false, true_implies, false_implies, true_and, and_true]
    exact ⟨KF.rf, Or.inl ⟨e, rfl⟩⟩
-- the reference
set_option maxRecDepth 100000 in
set_option maxHeartbeats 4000000 in
theorem v3_Model_verbs (g h : HP) (hC : CI g) (hm : CM g h) (th i n f : Int) (hth : isK g th 1) (w r : Nat) (hr : (r : Int) < g 15 3) (P : Option AV → HP → Prop) (hX : ∀ s x8, bP (∃ q : Nat, q < r + 1 ∧ tkR g th w q) s → Wn Z4 mModel_verbs SH0 40 [some (.inr (.inr 43)), some (.inl th), some (.inl i), some (.inl n), some (.inl f), some (.inl w), some (.inl s), some (.inl (r + 1)), x8] [] h P) : ∀ (d t : Nat) (s : Int), g 17 r - t < d → (t : Int) ≤ g 17 r → bP ((∃ q : Nat, q < r ∧ tkR g th w q) ∨ (g 16 r = w ∧ ∃ j : Nat, j < t ∧ asP g th (g 18 (4 * r + j)))) s → Wn Z4 mModel_verbs SH0 52 [some (.inr (.inr 43)), some (.inl th), some (.inl i), some (.inl n), some (.inl f), some (.inl w), some (.inl s), some (.inl r), some (.inl t)] [] h P := by
  have hR := hC.2.2.1
  have h40 := hR.2.1
  have l4 := hR.2.2.2 r (by omega)
  have er : ((r : Int)).toNat = r := by omega
  have e53 : h 53 r = g 17 r := hm.2.2.1.2.2 r (by omega)
  have e51 : h 51 r = g 16 r := (hm.2.2.1.2.1 r hr).1
  intro d
  induction d with
  | zero => intro t s h1 h2; omega
  | succ d ih =>
    intro t s h1 h2 h3
    have fin : g 17 r ≤ t → bP (∃ q : Nat, q < r + 1 ∧ tkR g th w q) s := by
      intro c1
      have key : ((∃ q : Nat, q < r ∧ tkR g th w q) ∨ (g 16 r = w ∧ ∃ j : Nat, j < t ∧ asP g th (g 18 (4 * r + j)))) ↔ (∃ q : Nat, q < r + 1 ∧ tkR g th w q) := by
        constructor
        · rintro (⟨q, q1, q2⟩ | ⟨q1, j, q2, q3⟩)
          · exact ⟨q, by omega, q2⟩
          · exact ⟨r, by omega, q1, j, by omega, q3⟩
        · rintro ⟨q, q1, q2⟩
          by_cases e : q = r
          · rw [e] at q2
            obtain ⟨z1, j, z2, z3⟩ := q2
            exact Or.inr ⟨z1, j, by omega, z3⟩
          · exact Or.inl ⟨q, by omega, q2⟩
      unfold bP at *
      rw [key] at h3
      exact h3
    have yes := ih (t + 1) 1 (by push_cast; omega)
    have no := ih (t + 1) 0 (by push_cast; omega)
    push_cast at yes no
    rcases h3 with ⟨rfl, y⟩ | ⟨rfl, y⟩
    · refine go [40,52] 400 (k := ?_)
      simp (config := {maxSteps := 1000000}) only [↓pI_c, ↓pR_c, ↓pJ_c, ↓pV_c, ↓popN_0, ↓popN_s, ↓lI_0, ↓lR_0, ↓lJ_0, ↓lI_s, ↓lR_s, ↓lJ_s, ↓okSt_0, ↓okSt_I, ↓okSt_R, ↓okSt_N, ↓okSt_s, ↓rtI_s, ↓rtV_n, ↓brP_t, ↓brP_f, ↓sModel_verbs_0, ↓sModel_verbs_1, ↓sModel_verbs_2, ↓rf_43_0, ↓sModel_verbs_5, ↓sModel_verbs_6, ↓sModel_verbs_7, ↓sModel_verbs_8, ↓sModel_verbs_11, ↓sModel_verbs_14, ↓sModel_verbs_16, ↓sModel_verbs_17, ↓sModel_verbs_18, ↓sModel_verbs_19, ↓sModel_verbs_20, ↓sModel_verbs_22, ↓sModel_verbs_23, ↓sModel_verbs_25, ↓sModel_verbs_27, ↓sModel_verbs_28, ↓rf_43_1, ↓sModel_verbs_31, ↓sModel_verbs_34, ↓sModel_verbs_35, ↓sModel_verbs_37, ↓sModel_verbs_38, ↓sModel_verbs_40, ↓sModel_verbs_42, ↓sModel_verbs_43, ↓rf_43_10, ↓sModel_verbs_46, ↓sModel_verbs_49, ↓sModel_verbs_50, ↓sModel_verbs_52, ↓sModel_verbs_54, ↓sModel_verbs_55, ↓rf_43_13, ↓sModel_verbs_58, ↓sModel_verbs_60, ↓sModel_verbs_61, ↓sModel_verbs_64, ↓sModel_verbs_66, ↓sModel_verbs_69, ↓sModel_verbs_70, ↓rf_43_11, ↓sModel_verbs_73, ↓sModel_verbs_75, ↓sModel_verbs_76, ↓sModel_verbs_78, ↓sModel_verbs_81, ↓sModel_verbs_82, ↓sModel_verbs_83, ↓sModel_verbs_84, ↓rf_43_12, ↓sModel_verbs_87, ↓sModel_verbs_88, ↓sModel_verbs_90, ↓sModel_verbs_91, ↓sModel_verbs_93, ↓sModel_verbs_94, ↓sModel_verbs_95, ↓sModel_verbs_98, ↓sModel_verbs_101, ↓sModel_verbs_102, ↓sModel_verbs_105, ↓sModel_verbs_106, ↓sModel_verbs_108, ↓sModel_verbs_111, ↓sModel_verbs_114, ↓sModel_verbs_117, ↓sModel_verbs_120, ↓sModel_verbs_122, ↓sModel_verbs_125, ↓sModel_verbs_126, ↓sModel_verbs_127, ↓sModel_verbs_130, ↓sModel_verbs_132, ↓sModel_verbs_135, ↓sModel_verbs_137, ↓sModel_verbs_139, ↓sModel_verbs_142, ↓sModel_verbs_145, ↓sModel_verbs_148, ↓sModel_verbs_150, ↓ln_51, ↓ln_52, ↓ln_53, List.set_cons_zero, List.set_cons_succ, List.length_cons, List.length_nil, List.contains_cons, List.contains_nil, cat1, brP_d, true_and, and_true, not_false_eq_true, not_true_eq_false, if_true, if_false, Bool.or_false, Bool.false_or, Bool.or_true, Bool.true_or, Bool.false_eq_true, Bool.or_self, false_implies, true_implies, forall_const, and_self, implies_true, true_or, or_true, or_false, false_or, or_self, Classical.not_not, Int.reduceAdd, Int.reduceSub, Int.reduceMul, Int.reduceNeg, Int.reduceToNat, Int.reduceLT, Int.reduceLE, Int.reduceEq, Int.reduceNe, Int.reduceNatCast', Nat.reduceAdd, Nat.reduceSub, Nat.reduceLeDiff, Nat.reduceLT, Nat.reduceEqDiff, Nat.reduceBEq, reduceIte, nx_w, nx_c, up_n, up_s, up_f, ne_eq, Nat.reduceEqDiff, Option.some.injEq, Prod.mk.injEq, exists_eq_left', reduceCtorEq, ob_43, er, e53]
      rw [wr_id (x := (r : Int) + 1) (by omega) (by omega), wr_id (x := (t : Int) + 1) (by omega) (by omega)]
      refine ⟨by omega, fun c1 => hX _ _ (fin c1), fun c1 => yes (by omega) (Or.inl ⟨rfl, ?_⟩)⟩
      rcases y with y | ⟨y1, j, y2, y3⟩
      · exact Or.inl y
      · exact Or.inr ⟨y1, j, by omega, y3⟩
    · refine go [40,52] 400 (k := ?_)
      simp (config := {maxSteps := 1000000}) only [↓pI_c, ↓pR_c, ↓pJ_c, ↓pV_c, ↓popN_0, ↓popN_s, ↓lI_0, ↓lR_0, ↓lJ_0, ↓lI_s, ↓lR_s, ↓lJ_s, ↓okSt_0, ↓okSt_I, ↓okSt_R, ↓okSt_N, ↓okSt_s, ↓rtI_s, ↓rtV_n, ↓brP_t, ↓brP_f, ↓sModel_verbs_0, ↓sModel_verbs_1, ↓sModel_verbs_2, ↓rf_43_0, ↓sModel_verbs_5, ↓sModel_verbs_6, ↓sModel_verbs_7, ↓sModel_verbs_8, ↓sModel_verbs_11, ↓sModel_verbs_14, ↓sModel_verbs_16, ↓sModel_verbs_17, ↓sModel_verbs_18, ↓sModel_verbs_19, ↓sModel_verbs_20, ↓sModel_verbs_22, ↓sModel_verbs_23, ↓sModel_verbs_25, ↓sModel_verbs_27, ↓sModel_verbs_28, ↓rf_43_1, ↓sModel_verbs_31, ↓sModel_verbs_34, ↓sModel_verbs_35, ↓sModel_verbs_37, ↓sModel_verbs_38, ↓sModel_verbs_40, ↓sModel_verbs_42, ↓sModel_verbs_43, ↓rf_43_10, ↓sModel_verbs_46, ↓sModel_verbs_49, ↓sModel_verbs_50, ↓sModel_verbs_52, ↓sModel_verbs_54, ↓sModel_verbs_55, ↓rf_43_13, ↓sModel_verbs_58, ↓sModel_verbs_60, ↓sModel_verbs_61, ↓sModel_verbs_64, ↓sModel_verbs_66, ↓sModel_verbs_69, ↓sModel_verbs_70, ↓rf_43_11, ↓sModel_verbs_73, ↓sModel_verbs_75, ↓sModel_verbs_76, ↓sModel_verbs_78, ↓sModel_verbs_81, ↓sModel_verbs_82, ↓sModel_verbs_83, ↓sModel_verbs_84, ↓rf_43_12, ↓sModel_verbs_87, ↓sModel_verbs_88, ↓sModel_verbs_90, ↓sModel_verbs_91, ↓sModel_verbs_93, ↓sModel_verbs_94, ↓sModel_verbs_95, ↓sModel_verbs_98, ↓sModel_verbs_101, ↓sModel_verbs_102, ↓sModel_verbs_105, ↓sModel_verbs_106, ↓sModel_verbs_108, ↓sModel_verbs_111, ↓sModel_verbs_114, ↓sModel_verbs_117, ↓sModel_verbs_120, ↓sModel_verbs_122, ↓sModel_verbs_125, ↓sModel_verbs_126, ↓sModel_verbs_127, ↓sModel_verbs_130, ↓sModel_verbs_132, ↓sModel_verbs_135, ↓sModel_verbs_137, ↓sModel_verbs_139, ↓sModel_verbs_142, ↓sModel_verbs_145, ↓sModel_verbs_148, ↓sModel_verbs_150, ↓ln_51, ↓ln_52, ↓ln_53, List.set_cons_zero, List.set_cons_succ, List.length_cons, List.length_nil, List.contains_cons, List.contains_nil, cat1, brP_d, true_and, and_true, not_false_eq_true, not_true_eq_false, if_true, if_false, Bool.or_false, Bool.false_or, Bool.or_true, Bool.true_or, Bool.false_eq_true, Bool.or_self, false_implies, true_implies, forall_const, and_self, implies_true, true_or, or_true, or_false, false_or, or_self, Classical.not_not, Int.reduceAdd, Int.reduceSub, Int.reduceMul, Int.reduceNeg, Int.reduceToNat, Int.reduceLT, Int.reduceLE, Int.reduceEq, Int.reduceNe, Int.reduceNatCast', Nat.reduceAdd, Nat.reduceSub, Nat.reduceLeDiff, Nat.reduceLT, Nat.reduceEqDiff, Nat.reduceBEq, reduceIte, nx_w, nx_c, up_n, up_s, up_f, ne_eq, Nat.reduceEqDiff, Option.some.injEq, Prod.mk.injEq, exists_eq_left', reduceCtorEq, ob_43, er, e53, e51]
      rw [wr_id (x := (r : Int) + 1) (by omega) (by omega), wr_id (x := (t : Int) + 1) (by omega) (by omega), wr_id (x := 4 * (r : Int)) (by omega) (by omega), wr_id (x := 4 * (r : Int) + t) (by omega) (by omega), show (4 * (r : Int) + t).toNat = 4 * r + t by omega]
      refine ⟨by omega, fun c1 => hX _ _ (fin c1), fun c1 => ⟨by omega, fun c2 => no (by omega) (Or.inr ⟨rfl, ?_⟩), fun c2 => ⟨by omega, ?_⟩⟩⟩
      · rintro (z | ⟨z, _⟩)
        · exact y (Or.inl z)
        · exact c2 z
      · rw [(hm.2.2.1.2.1 r hr).2 t (by omega)]
        refine use_b (t_Model_isAs g h hC.1 hm.1 th _ ⟨hth.1, hth.2.1⟩) (fun hc => ?_) (fun hc => ?_)
        · simp only [one_ne, not_false_eq_true, true_implies, false_implies, true_and, and_true]
          exact yes (by omega) (Or.inl ⟨rfl, Or.inr ⟨c2, t, by omega, hc⟩⟩)
        · simp only [not_true_eq_false, true_implies, false_implies, true_and, and_true]
          refine no (by omega) (Or.inr ⟨rfl, ?_⟩)
          rintro (z | ⟨z, j, j1, j2⟩)
          · exact y (Or.inl z)
          · by_cases e : j = t
            · rw [e] at j2; exact hc j2
            · exact y (Or.inr ⟨z, j, by omega, j2⟩)
set_option maxRecDepth 100000 in
set_option maxHeartbeats 4000000 in
theorem v2_Model_verbs (g h : HP) (hC : CI g) (hm : CM g h) (th i n f : Int) (hth : isK g th 1) (w : Nat) (P : Option AV → HP → Prop) (hX : ∀ s x7 x8, bP (tkP g th w) s → Wn Z4 mModel_verbs SH0 120 [some (.inr (.inr 43)), some (.inl th), some (.inl i), some (.inl n), some (.inl f), some (.inl w), some (.inl s), x7, x8] [] h P) : ∀ (d r : Nat) (s : Int) (x8 : Option AV), g 15 3 - r < d → (r : Int) ≤ g 15 3 → bP (∃ q : Nat, q < r ∧ tkR g th w q) s → Wn Z4 mModel_verbs SH0 40 [some (.inr (.inr 43)), some (.inl th), some (.inl i), some (.inl n), some (.inl f), some (.inl w), some (.inl s), some (.inl r), x8] [] h P := by
  have hR := hC.2.2.1
  have h40 := hR.2.1
  have e10 : h 43 10 = g 15 3 := hm.2.2.1.1
  intro d
  induction d with
  | zero => intro r s x8 h1 h2; omega
  | succ d ih =>
    intro r s x8 h1 h2 h3
    refine go [52,120] 400 (k := ?_)
    simp (config := {maxSteps := 1000000}) only [↓pI_c, ↓pR_c, ↓pJ_c, ↓pV_c, ↓popN_0, ↓popN_s, ↓lI_0, ↓lR_0, ↓lJ_0, ↓lI_s, ↓lR_s, ↓lJ_s, ↓okSt_0, ↓okSt_I, ↓okSt_R, ↓okSt_N, ↓okSt_s, ↓rtI_s, ↓rtV_n, ↓brP_t, ↓brP_f, ↓sModel_verbs_0, ↓sModel_verbs_1, ↓sModel_verbs_2, ↓rf_43_0, ↓sModel_verbs_5, ↓sModel_verbs_6, ↓sModel_verbs_7, ↓sModel_verbs_8, ↓sModel_verbs_11, ↓sModel_verbs_14, ↓sModel_verbs_16, ↓sModel_verbs_17, ↓sModel_verbs_18, ↓sModel_verbs_19, ↓sModel_verbs_20, ↓sModel_verbs_22, ↓sModel_verbs_23, ↓sModel_verbs_25, ↓sModel_verbs_27, ↓sModel_verbs_28, ↓rf_43_1, ↓sModel_verbs_31, ↓sModel_verbs_34, ↓sModel_verbs_35, ↓sModel_verbs_37, ↓sModel_verbs_38, ↓sModel_verbs_40, ↓sModel_verbs_42, ↓sModel_verbs_43, ↓rf_43_10, ↓sModel_verbs_46, ↓sModel_verbs_49, ↓sModel_verbs_50, ↓sModel_verbs_52, ↓sModel_verbs_54, ↓sModel_verbs_55, ↓rf_43_13, ↓sModel_verbs_58, ↓sModel_verbs_60, ↓sModel_verbs_61, ↓sModel_verbs_64, ↓sModel_verbs_66, ↓sModel_verbs_69, ↓sModel_verbs_70, ↓rf_43_11, ↓sModel_verbs_73, ↓sModel_verbs_75, ↓sModel_verbs_76, ↓sModel_verbs_78, ↓sModel_verbs_81, ↓sModel_verbs_82, ↓sModel_verbs_83, ↓sModel_verbs_84, ↓rf_43_12, ↓sModel_verbs_87, ↓sModel_verbs_88, ↓sModel_verbs_90, ↓sModel_verbs_91, ↓sModel_verbs_93, ↓sModel_verbs_94, ↓sModel_verbs_95, ↓sModel_verbs_98, ↓sModel_verbs_101, ↓sModel_verbs_102, ↓sModel_verbs_105, ↓sModel_verbs_106, ↓sModel_verbs_108, ↓sModel_verbs_111, ↓sModel_verbs_114, ↓sModel_verbs_117, ↓sModel_verbs_120, ↓sModel_verbs_122, ↓sModel_verbs_125, ↓sModel_verbs_126, ↓sModel_verbs_127, ↓sModel_verbs_130, ↓sModel_verbs_132, ↓sModel_verbs_135, ↓sModel_verbs_137, ↓sModel_verbs_139, ↓sModel_verbs_142, ↓sModel_verbs_145, ↓sModel_verbs_148, ↓sModel_verbs_150, ↓ln_51, ↓ln_52, ↓ln_53, List.set_cons_zero, List.set_cons_succ, List.length_cons, List.length_nil, List.contains_cons, List.contains_nil, cat1, brP_d, true_and, and_true, not_false_eq_true, not_true_eq_false, if_true, if_false, Bool.or_false, Bool.false_or, Bool.or_true, Bool.true_or, Bool.false_eq_true, Bool.or_self, false_implies, true_implies, forall_const, and_self, implies_true, true_or, or_true, or_false, false_or, or_self, Classical.not_not, Int.reduceAdd, Int.reduceSub, Int.reduceMul, Int.reduceNeg, Int.reduceToNat, Int.reduceLT, Int.reduceLE, Int.reduceEq, Int.reduceNe, Int.reduceNatCast', Nat.reduceAdd, Nat.reduceSub, Nat.reduceLeDiff, Nat.reduceLT, Nat.reduceEqDiff, Nat.reduceBEq, reduceIte, nx_w, nx_c, up_n, up_s, up_f, ne_eq, Nat.reduceEqDiff, Option.some.injEq, Prod.mk.injEq, exists_eq_left', reduceCtorEq, ob_43, e10]
    refine ⟨fun c1 => hX _ _ _ ?_, fun c1 => ?_⟩
    · have key : (∃ q : Nat, q < r ∧ tkR g th w q) ↔ tkP g th w := by
        constructor
        · rintro ⟨q, q1, q2⟩
          exact ⟨q, by omega, q2⟩
        · rintro ⟨q, q1, q2⟩
          exact ⟨q, by omega, q2⟩
      unfold bP at *
      rw [key] at h3
      exact h3
    · have l4 := hR.2.2.2 r (by omega)
      refine v3_Model_verbs g h hC hm th i n f hth w r (by omega) P ?_ ((g 17 r).toNat + 1) 0 s (by push_cast; omega) (by push_cast; omega) ?_
      · intro s' x8' hs
        have := ih (r + 1) s' x8' (by push_cast; omega) (by push_cast; omega) hs
        push_cast at this
        exact this
      · have key : ((∃ q : Nat, q < r ∧ tkR g th w q) ∨ (g 16 r = w ∧ ∃ j : Nat, j < 0 ∧ asP g th (g 18 (4 * r + j)))) ↔ (∃ q : Nat, q < r ∧ tkR g th w q) := by
          constructor
          · rintro (z | ⟨_, j, z, _⟩)
            · exact z
            · exact absurd z (Nat.not_lt_zero j)
          · exact Or.inl
        unfold bP at *
        rw [key]
        exact h3
set_option maxRecDepth 100000 in
set_option maxHeartbeats 4000000 in
theorem v1_Model_verbs (g h0 h : HP) (hC : CI g) (hm : CM g h) (hs0 : MS h0 h) (th i : Int) (hth : isK g th 1) : ∀ (d w : Nat) (f : Int) (x6 x7 x8 : Option AV), g 10 4 - w < d → (w : Int) ≤ g 10 4 → pkP (tkP g th) w i f (-1) → Wn Z4 mModel_verbs SH0 25 [some (.inr (.inr 43)), some (.inl th), some (.inl i), some (.inl (cntP (tkP g th) w)), some (.inl f), some (.inl w), x6, x7, x8] [] h (rtI (roM (sVerbs th i g) h0)) := by
  have hR := hC.2.2.1
  have h60 := hC.1.2.1
  have e1 : h 43 1 = g 10 4 := hm.1.1
  intro d
  induction d with
  | zero => intro w f x6 x7 x8 h1 h2; omega
  | succ d ih =>
    intro w f x6 x7 x8 h1 h2 h3
    have hin := cntP_in (tkP g th) w
    have ew : ((w : Int)).toNat = w := by omega
    obtain ⟨n1, n2, n3⟩ := pkP_s (show 0 ≤ (w : Int) by omega) h3
    rw [ew] at n1 n2 n3
    refine go [40] 400 (k := ?_)
    simp (config := {maxSteps := 1000000}) only [↓pI_c, ↓pR_c, ↓pJ_c, ↓pV_c, ↓popN_0, ↓popN_s, ↓lI_0, ↓lR_0, ↓lJ_0, ↓lI_s, ↓lR_s, ↓lJ_s, ↓okSt_0, ↓okSt_I, ↓okSt_R, ↓okSt_N, ↓okSt_s, ↓rtI_s, ↓rtV_n, ↓brP_t, ↓brP_f, ↓sModel_verbs_0, ↓sModel_verbs_1, ↓sModel_verbs_2, ↓rf_43_0, ↓sModel_verbs_5, ↓sModel_verbs_6, ↓sModel_verbs_7, ↓sModel_verbs_8, ↓sModel_verbs_11, ↓sModel_verbs_14, ↓sModel_verbs_16, ↓sModel_verbs_17, ↓sModel_verbs_18, ↓sModel_verbs_19, ↓sModel_verbs_20, ↓sModel_verbs_22, ↓sModel_verbs_23, ↓sModel_verbs_25, ↓sModel_verbs_27, ↓sModel_verbs_28, ↓rf_43_1, ↓sModel_verbs_31, ↓sModel_verbs_34, ↓sModel_verbs_35, ↓sModel_verbs_37, ↓sModel_verbs_38, ↓sModel_verbs_40, ↓sModel_verbs_42, ↓sModel_verbs_43, ↓rf_43_10, ↓sModel_verbs_46, ↓sModel_verbs_49, ↓sModel_verbs_50, ↓sModel_verbs_52, ↓sModel_verbs_54, ↓sModel_verbs_55, ↓rf_43_13, ↓sModel_verbs_58, ↓sModel_verbs_60, ↓sModel_verbs_61, ↓sModel_verbs_64, ↓sModel_verbs_66, ↓sModel_verbs_69, ↓sModel_verbs_70, ↓rf_43_11, ↓sModel_verbs_73, ↓sModel_verbs_75, ↓sModel_verbs_76, ↓sModel_verbs_78, ↓sModel_verbs_81, ↓sModel_verbs_82, ↓sModel_verbs_83, ↓sModel_verbs_84, ↓rf_43_12, ↓sModel_verbs_87, ↓sModel_verbs_88, ↓sModel_verbs_90, ↓sModel_verbs_91, ↓sModel_verbs_93, ↓sModel_verbs_94, ↓sModel_verbs_95, ↓sModel_verbs_98, ↓sModel_verbs_101, ↓sModel_verbs_102, ↓sModel_verbs_105, ↓sModel_verbs_106, ↓sModel_verbs_108, ↓sModel_verbs_111, ↓sModel_verbs_114, ↓sModel_verbs_117, ↓sModel_verbs_120, ↓sModel_verbs_122, ↓sModel_verbs_125, ↓sModel_verbs_126, ↓sModel_verbs_127, ↓sModel_verbs_130, ↓sModel_verbs_132, ↓sModel_verbs_135, ↓sModel_verbs_137, ↓sModel_verbs_139, ↓sModel_verbs_142, ↓sModel_verbs_145, ↓sModel_verbs_148, ↓sModel_verbs_150, ↓ln_51, ↓ln_52, ↓ln_53, List.set_cons_zero, List.set_cons_succ, List.length_cons, List.length_nil, List.contains_cons, List.contains_nil, cat1, brP_d, true_and, and_true, not_false_eq_true, not_true_eq_false, if_true, if_false, Bool.or_false, Bool.false_or, Bool.or_true, Bool.true_or, Bool.false_eq_true, Bool.or_self, false_implies, true_implies, forall_const, and_self, implies_true, true_or, or_true, or_false, false_or, or_self, Classical.not_not, Int.reduceAdd, Int.reduceSub, Int.reduceMul, Int.reduceNeg, Int.reduceToNat, Int.reduceLT, Int.reduceLE, Int.reduceEq, Int.reduceNe, Int.reduceNatCast', Nat.reduceAdd, Nat.reduceSub, Nat.reduceLeDiff, Nat.reduceLT, Nat.reduceEqDiff, Nat.reduceBEq, reduceIte, nx_w, nx_c, up_n, up_s, up_f, ne_eq, Nat.reduceEqDiff, Option.some.injEq, Prod.mk.injEq, exists_eq_left', reduceCtorEq, ob_43, e1]
    refine ⟨fun c1 => ⟨hs0, Or.inr ⟨hth, ?_⟩⟩, fun c1 => ?_⟩
    · rw [show g 10 4 = w by omega]
      exact h3
    · refine v2_Model_verbs g h hC hm th i _ f hth w _ ?_ ((g 15 3).toNat + 1) 0 0 _ (by have := hR.1; push_cast; omega) (by have := hR.1; push_cast; omega) (Or.inr ⟨rfl, fun ⟨q, z, _⟩ => absurd z (Nat.not_lt_zero q)⟩)
      intro s y7 y8 hs
      rcases hs with ⟨rfl, hs⟩ | ⟨rfl, hs⟩
      · refine go [25] 400 (k := ?_)
        simp (config := {maxSteps := 1000000}) only [↓pI_c, ↓pR_c, ↓pJ_c, ↓pV_c, ↓popN_0, ↓popN_s, ↓lI_0, ↓lR_0, ↓lJ_0, ↓lI_s, ↓lR_s, ↓lJ_s, ↓okSt_0, ↓okSt_I, ↓okSt_R, ↓okSt_N, ↓okSt_s, ↓rtI_s, ↓rtV_n, ↓brP_t, ↓brP_f, ↓sModel_verbs_0, ↓sModel_verbs_1, ↓sModel_verbs_2, ↓rf_43_0, ↓sModel_verbs_5, ↓sModel_verbs_6, ↓sModel_verbs_7, ↓sModel_verbs_8, ↓sModel_verbs_11, ↓sModel_verbs_14, ↓sModel_verbs_16, ↓sModel_verbs_17, ↓sModel_verbs_18, ↓sModel_verbs_19, ↓sModel_verbs_20, ↓sModel_verbs_22, ↓sModel_verbs_23, ↓sModel_verbs_25, ↓sModel_verbs_27, ↓sModel_verbs_28, ↓rf_43_1, ↓sModel_verbs_31, ↓sModel_verbs_34, ↓sModel_verbs_35, ↓sModel_verbs_37, ↓sModel_verbs_38, ↓sModel_verbs_40, ↓sModel_verbs_42, ↓sModel_verbs_43, ↓rf_43_10, ↓sModel_verbs_46, ↓sModel_verbs_49, ↓sModel_verbs_50, ↓sModel_verbs_52, ↓sModel_verbs_54, ↓sModel_verbs_55, ↓rf_43_13, ↓sModel_verbs_58, ↓sModel_verbs_60, ↓sModel_verbs_61, ↓sModel_verbs_64, ↓sModel_verbs_66, ↓sModel_verbs_69, ↓sModel_verbs_70, ↓rf_43_11, ↓sModel_verbs_73, ↓sModel_verbs_75, ↓sModel_verbs_76, ↓sModel_verbs_78, ↓sModel_verbs_81, ↓sModel_verbs_82, ↓sModel_verbs_83, ↓sModel_verbs_84, ↓rf_43_12, ↓sModel_verbs_87, ↓sModel_verbs_88, ↓sModel_verbs_90, ↓sModel_verbs_91, ↓sModel_verbs_93, ↓sModel_verbs_94, ↓sModel_verbs_95, ↓sModel_verbs_98, ↓sModel_verbs_101, ↓sModel_verbs_102, ↓sModel_verbs_105, ↓sModel_verbs_106, ↓sModel_verbs_108, ↓sModel_verbs_111, ↓sModel_verbs_114, ↓sModel_verbs_117, ↓sModel_verbs_120, ↓sModel_verbs_122, ↓sModel_verbs_125, ↓sModel_verbs_126, ↓sModel_verbs_127, ↓sModel_verbs_130, ↓sModel_verbs_132, ↓sModel_verbs_135, ↓sModel_verbs_137, ↓sModel_verbs_139, ↓sModel_verbs_142, ↓sModel_verbs_145, ↓sModel_verbs_148, ↓sModel_verbs_150, ↓ln_51, ↓ln_52, ↓ln_53, List.set_cons_zero, List.set_cons_succ, List.length_cons, List.length_nil, List.contains_cons, List.contains_nil, cat1, brP_d, true_and, and_true, not_false_eq_true, not_true_eq_false, if_true, if_false, Bool.or_false, Bool.false_or, Bool.or_true, Bool.true_or, Bool.false_eq_true, Bool.or_self, false_implies, true_implies, forall_const, and_self, implies_true, true_or, or_true, or_false, false_or, or_self, Classical.not_not, Int.reduceAdd, Int.reduceSub, Int.reduceMul, Int.reduceNeg, Int.reduceToNat, Int.reduceLT, Int.reduceLE, Int.reduceEq, Int.reduceNe, Int.reduceNatCast', Nat.reduceAdd, Nat.reduceSub, Nat.reduceLeDiff, Nat.reduceLT, Nat.reduceEqDiff, Nat.reduceBEq, reduceIte, nx_w, nx_c, up_n, up_s, up_f, ne_eq, Nat.reduceEqDiff, Option.some.injEq, Prod.mk.injEq, exists_eq_left', reduceCtorEq, ob_43]
        rw [wr_id (x := (w : Int) + 1) (by omega) (by omega), wr_id (x := cntP (tkP g th) w + 1) (by omega) (by omega)]
        have hi := ih (w + 1)
        rw [cntP_y hs] at hi
        push_cast at hi
        exact ⟨fun c2 => hi f _ _ _ (by omega) (by omega) (n3 hs c2), fun c2 => hi w _ _ _ (by omega) (by omega) (n2 hs c2)⟩
      · refine go [25] 400 (k := ?_)
        simp (config := {maxSteps := 1000000}) only [↓pI_c, ↓pR_c, ↓pJ_c, ↓pV_c, ↓popN_0, ↓popN_s, ↓lI_0, ↓lR_0, ↓lJ_0, ↓lI_s, ↓lR_s, ↓lJ_s, ↓okSt_0, ↓okSt_I, ↓okSt_R, ↓okSt_N, ↓okSt_s, ↓rtI_s, ↓rtV_n, ↓brP_t, ↓brP_f, ↓sModel_verbs_0, ↓sModel_verbs_1, ↓sModel_verbs_2, ↓rf_43_0, ↓sModel_verbs_5, ↓sModel_verbs_6, ↓sModel_verbs_7, ↓sModel_verbs_8, ↓sModel_verbs_11, ↓sModel_verbs_14, ↓sModel_verbs_16, ↓sModel_verbs_17, ↓sModel_verbs_18, ↓sModel_verbs_19, ↓sModel_verbs_20, ↓sModel_verbs_22, ↓sModel_verbs_23, ↓sModel_verbs_25, ↓sModel_verbs_27, ↓sModel_verbs_28, ↓rf_43_1, ↓sModel_verbs_31, ↓sModel_verbs_34, ↓sModel_verbs_35, ↓sModel_verbs_37, ↓sModel_verbs_38, ↓sModel_verbs_40, ↓sModel_verbs_42, ↓sModel_verbs_43, ↓rf_43_10, ↓sModel_verbs_46, ↓sModel_verbs_49, ↓sModel_verbs_50, ↓sModel_verbs_52, ↓sModel_verbs_54, ↓sModel_verbs_55, ↓rf_43_13, ↓sModel_verbs_58, ↓sModel_verbs_60, ↓sModel_verbs_61, ↓sModel_verbs_64, ↓sModel_verbs_66, ↓sModel_verbs_69, ↓sModel_verbs_70, ↓rf_43_11, ↓sModel_verbs_73, ↓sModel_verbs_75, ↓sModel_verbs_76, ↓sModel_verbs_78, ↓sModel_verbs_81, ↓sModel_verbs_82, ↓sModel_verbs_83, ↓sModel_verbs_84, ↓rf_43_12, ↓sModel_verbs_87, ↓sModel_verbs_88, ↓sModel_verbs_90, ↓sModel_verbs_91, ↓sModel_verbs_93, ↓sModel_verbs_94, ↓sModel_verbs_95, ↓sModel_verbs_98, ↓sModel_verbs_101, ↓sModel_verbs_102, ↓sModel_verbs_105, ↓sModel_verbs_106, ↓sModel_verbs_108, ↓sModel_verbs_111, ↓sModel_verbs_114, ↓sModel_verbs_117, ↓sModel_verbs_120, ↓sModel_verbs_122, ↓sModel_verbs_125, ↓sModel_verbs_126, ↓sModel_verbs_127, ↓sModel_verbs_130, ↓sModel_verbs_132, ↓sModel_verbs_135, ↓sModel_verbs_137, ↓sModel_verbs_139, ↓sModel_verbs_142, ↓sModel_verbs_145, ↓sModel_verbs_148, ↓sModel_verbs_150, ↓ln_51, ↓ln_52, ↓ln_53, List.set_cons_zero, List.set_cons_succ, List.length_cons, List.length_nil, List.contains_cons, List.contains_nil, cat1, brP_d, true_and, and_true, not_false_eq_true, not_true_eq_false, if_true, if_false, Bool.or_false, Bool.false_or, Bool.or_true, Bool.true_or, Bool.false_eq_true, Bool.or_self, false_implies, true_implies, forall_const, and_self, implies_true, true_or, or_true, or_false, false_or, or_self, Classical.not_not, Int.reduceAdd, Int.reduceSub, Int.reduceMul, Int.reduceNeg, Int.reduceToNat, Int.reduceLT, Int.reduceLE, Int.reduceEq, Int.reduceNe, Int.reduceNatCast', Nat.reduceAdd, Nat.reduceSub, Nat.reduceLeDiff, Nat.reduceLT, Nat.reduceEqDiff, Nat.reduceBEq, reduceIte, nx_w, nx_c, up_n, up_s, up_f, ne_eq, Nat.reduceEqDiff, Option.some.injEq, Prod.mk.injEq, exists_eq_left', reduceCtorEq, ob_43]
        rw [wr_id (x := (w : Int) + 1) (by omega) (by omega)]
        have hi := ih (w + 1)
        rw [cntP_n hs] at hi
        push_cast at hi
        exact hi f _ _ _ (by omega) (by omega) (n1 hs)
set_option maxRecDepth 100000 in
set_option maxHeartbeats 4000000 in
theorem t_Model_verbs (g h : HP) (hC : CI g) (hm : CM g h) (th i : Int) : trI mModel_verbs [.inr (.inr 43), .inl th, .inl i] SH0 h (roM (sVerbs th i g) h) := by
  have h60 := hC.1.2.1
  have h0 := hC.1.1
  have hm0 := hm.ms msu0
  have e1 : up h 43 0 0 43 1 = g 10 4 := hm0.1.1
  refine startI [some (.inr (.inr 43)), some (.inl th), some (.inl i), none, none, none, none, none, none] mModel_verbs_c (go [25] 400 (k := ?_))
  simp (config := {maxSteps := 1000000}) only [↓pI_c, ↓pR_c, ↓pJ_c, ↓pV_c, ↓popN_0, ↓popN_s, ↓lI_0, ↓lR_0, ↓lJ_0, ↓lI_s, ↓lR_s, ↓lJ_s, ↓okSt_0, ↓okSt_I, ↓okSt_R, ↓okSt_N, ↓okSt_s, ↓rtI_s, ↓rtV_n, ↓brP_t, ↓brP_f, ↓sModel_verbs_0, ↓sModel_verbs_1, ↓sModel_verbs_2, ↓rf_43_0, ↓sModel_verbs_5, ↓sModel_verbs_6, ↓sModel_verbs_7, ↓sModel_verbs_8, ↓sModel_verbs_11, ↓sModel_verbs_14, ↓sModel_verbs_16, ↓sModel_verbs_17, ↓sModel_verbs_18, ↓sModel_verbs_19, ↓sModel_verbs_20, ↓sModel_verbs_22, ↓sModel_verbs_23, ↓sModel_verbs_25, ↓sModel_verbs_27, ↓sModel_verbs_28, ↓rf_43_1, ↓sModel_verbs_31, ↓sModel_verbs_34, ↓sModel_verbs_35, ↓sModel_verbs_37, ↓sModel_verbs_38, ↓sModel_verbs_40, ↓sModel_verbs_42, ↓sModel_verbs_43, ↓rf_43_10, ↓sModel_verbs_46, ↓sModel_verbs_49, ↓sModel_verbs_50, ↓sModel_verbs_52, ↓sModel_verbs_54, ↓sModel_verbs_55, ↓rf_43_13, ↓sModel_verbs_58, ↓sModel_verbs_60, ↓sModel_verbs_61, ↓sModel_verbs_64, ↓sModel_verbs_66, ↓sModel_verbs_69, ↓sModel_verbs_70, ↓rf_43_11, ↓sModel_verbs_73, ↓sModel_verbs_75, ↓sModel_verbs_76, ↓sModel_verbs_78, ↓sModel_verbs_81, ↓sModel_verbs_82, ↓sModel_verbs_83, ↓sModel_verbs_84, ↓rf_43_12, ↓sModel_verbs_87, ↓sModel_verbs_88, ↓sModel_verbs_90, ↓sModel_verbs_91, ↓sModel_verbs_93, ↓sModel_verbs_94, ↓sModel_verbs_95, ↓sModel_verbs_98, ↓sModel_verbs_101, ↓sModel_verbs_102, ↓sModel_verbs_105, ↓sModel_verbs_106, ↓sModel_verbs_108, ↓sModel_verbs_111, ↓sModel_verbs_114, ↓sModel_verbs_117, ↓sModel_verbs_120, ↓sModel_verbs_122, ↓sModel_verbs_125, ↓sModel_verbs_126, ↓sModel_verbs_127, ↓sModel_verbs_130, ↓sModel_verbs_132, ↓sModel_verbs_135, ↓sModel_verbs_137, ↓sModel_verbs_139, ↓sModel_verbs_142, ↓sModel_verbs_145, ↓sModel_verbs_148, ↓sModel_verbs_150, ↓ln_51, ↓ln_52, ↓ln_53, List.set_cons_zero, List.set_cons_succ, List.length_cons, List.length_nil, List.contains_cons, List.contains_nil, cat1, brP_d, true_and, and_true, not_false_eq_true, not_true_eq_false, if_true, if_false, Bool.or_false, Bool.false_or, Bool.or_true, Bool.true_or, Bool.false_eq_true, Bool.or_self, false_implies, true_implies, forall_const, and_self, implies_true, true_or, or_true, or_false, false_or, or_self, Classical.not_not, Int.reduceAdd, Int.reduceSub, Int.reduceMul, Int.reduceNeg, Int.reduceToNat, Int.reduceLT, Int.reduceLE, Int.reduceEq, Int.reduceNe, Int.reduceNatCast', Nat.reduceAdd, Nat.reduceSub, Nat.reduceLeDiff, Nat.reduceLT, Nat.reduceEqDiff, Nat.reduceBEq, reduceIte, nx_w, nx_c, up_n, up_s, up_f, ne_eq, Nat.reduceEqDiff, Option.some.injEq, Prod.mk.injEq, exists_eq_left', reduceCtorEq, ob_43]
  refine use_p (t_Model_is _ th 1 (by rw [e1]; omega)) ?_
  rw [e1]
  by_cases e : isK g th 1
  · have e' : 0 ≤ th ∧ th < g 10 4 ∧ up h 43 0 0 44 th.toNat = 1 := ⟨e.1, e.2.1, by rw [(hm0.1.2 th.toNat (by have := e.1; have := e.2.1; omega)).1]; exact e.2.2⟩
    simp only [b2, if_pos e', one_ne, not_false_eq_true, true_implies, false_implies, true_and, and_true]
    exact v1_Model_verbs g h _ hC hm0 msu0 th i e ((g 10 4).toNat + 1) 0 (-1) _ _ _ (by push_cast; omega) (by push_cast; omega) (Or.inr ⟨fun w hw => by push_cast at hw; omega, rfl⟩)
  · have e' : ¬ (0 ≤ th ∧ th < g 10 4 ∧ up h 43 0 0 44 th.toNat = 1) := fun z => e ⟨z.1, z.2.1, by rw [← (hm0.1.2 th.toNat (by have := z.1; have := z.2.1; omega)).1]; exact z.2.2⟩
    simp only [b2, if_neg e', not_true_eq_false, true_implies, false_implies, true_and, and_true]
    exact ⟨msu0, Or.inl ⟨e, rfl⟩⟩
