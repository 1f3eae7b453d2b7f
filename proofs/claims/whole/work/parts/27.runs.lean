/-! runs of letters -/
theorem lOf_isL (b : Int) : lOf b = -1 ↔ ¬ isL b := by
  unfold lOf isL
  split
  · omega
  · split <;> omega
theorem lOf_in (b : Int) : lOf b = -1 ∨ (0 ≤ lOf b ∧ lOf b ≤ 25) := by
  unfold lOf
  split
  · omega
  · split <;> omega
theorem lOf_sm {b : Int} (hb : ¬ lOf b = -1) : sm b = lOf b + 97 := by
  have h1 : isL b := Classical.byContradiction (fun z => hb ((lOf_isL b).mpr z))
  unfold isL at h1
  unfold sm lOf
  by_cases h2 : 97 ≤ b ∧ b ≤ 122
  · rw [if_pos h2, if_neg (by omega)]; omega
  · by_cases h3 : 65 ≤ b ∧ b ≤ 90
    · rw [if_neg h2, if_pos h3, if_pos (by omega), wr_id (by omega) (by omega)]; omega
    · omega
theorem runs_lt {g : HP} {m tz : Int} {b st ln : Nat → Int} (h : IRuns g m tz b st ln) : ∀ (d i : Nat), (i : Int) + d + 1 < tz → st i + ln i < st (i + d + 1) := by
  obtain ⟨h1, h2, h3, h4, h5⟩ := h
  intro d
  induction d with
  | zero => intro i hi; exact h5 i (by omega)
  | succ d ih =>
    intro i hi
    have a := ih i (by omega)
    have c := h5 (i + d + 1) (by push_cast; omega)
    have e := (h3 (i + d + 1) (by push_cast; omega)).2.1
    rw [show i + (d + 1) + 1 = i + d + 1 + 1 by omega]
    omega
theorem runs_lt' {g : HP} {m tz : Int} {b st ln : Nat → Int} (h : IRuns g m tz b st ln) {i j : Nat} (hij : i < j) (hj : (j : Int) < tz) : st i + ln i < st j := by
  have := runs_lt h (j - i - 1) i (by omega)
  rwa [show i + (j - i - 1) + 1 = j by omega] at this
theorem runs_start {g g' : HP} {m tz tz' : Int} {b st ln st' ln' : Nat → Int} (h : IRuns g m tz b st ln) (h' : IRuns g' m tz' b st' ln') {k : Nat} (hk : (k : Int) < tz) : ∃ k' : Nat, (k' : Int) < tz' ∧ st' k' = st k := by
  obtain ⟨a1, a2, a3, a4⟩ := h.2.2.1 k hk
  obtain ⟨k', c1, c2, c3⟩ := h'.2.2.2.1 (st k).toNat (by omega) (a4 (st k).toNat (by omega) (by omega))
  refine ⟨k', c1, ?_⟩
  rcases Int.lt_or_le (st' k') (st k) with q | q
  · exfalso
    obtain ⟨e1, e2, e3, e4⟩ := h'.2.2.1 k' c1
    have hl := e4 ((st k).toNat - 1) (by omega) (by omega)
    obtain ⟨j, f1, f2, f3⟩ := h.2.2.2.1 ((st k).toNat - 1) (by omega) hl
    rcases Nat.lt_trichotomy j k with r | r | r
    · have := runs_lt' h r hk
      omega
    · subst r; omega
    · have := runs_lt' h r f1
      omega
  · omega
theorem runs_end {g : HP} {m tz : Int} {b st ln : Nat → Int} (h : IRuns g m tz b st ln) {k : Nat} (hk : (k : Int) < tz) (hm : st k + ln k < m) : lOf (b (st k + ln k).toNat) = -1 := by
  obtain ⟨a1, a2, a3, a4⟩ := h.2.2.1 k hk
  rcases Classical.em (lOf (b (st k + ln k).toNat) = -1) with q | q
  · exact q
  · exfalso
    obtain ⟨j, f1, f2, f3⟩ := h.2.2.2.1 (st k + ln k).toNat (by omega) q
    rcases Nat.lt_trichotomy j k with r | r | r
    · have := runs_lt' h r hk
      omega
    · subst r; omega
    · have := runs_lt' h r f1
      omega
theorem runs_uni {g g' : HP} {m tz tz' : Int} {b st ln st' ln' : Nat → Int} (h : IRuns g m tz b st ln) (h' : IRuns g' m tz' b st' ln') : ∀ (n k : Nat), k < n → (k : Int) < tz → (k : Int) < tz' ∧ st' k = st k ∧ ln' k = ln k := by
  intro n
  induction n with
  | zero => intro k hk; omega
  | succ n ih =>
    intro k hk hkt
    by_cases hkn : k < n
    · exact ih k hkn hkt
    have hkn' : k = n := by omega
    subst hkn'
    obtain ⟨k', c1, c2⟩ := runs_start h h' hkt
    have hge : k ≤ k' := by
      rcases Nat.lt_or_ge k' k with q | q
      · exfalso
        have e := ih k' q (by omega)
        have := runs_lt' h q hkt
        have := (h.2.2.1 k' (by omega)).2.1
        omega
      · exact q
    have hle : k' ≤ k := by
      rcases Nat.lt_or_ge k k' with q | q
      · exfalso
        have hlt := runs_lt' h' q c1
        have hp := (h'.2.2.1 k (by omega)).2.1
        obtain ⟨j, d1, d2⟩ := runs_start h' h (k := k) (by omega)
        rcases Nat.lt_or_ge j k with r | r
        · have e := ih j r (by omega)
          have := runs_lt' h' r (by omega : (k : Int) < tz')
          have := (h'.2.2.1 j (by omega)).2.1
          omega
        · rcases Nat.lt_or_ge k j with z | z
          · have := runs_lt' h z d1
            have := (h.2.2.1 k hkt).2.1
            omega
          · have : j = k := by omega
            subst this
            omega
      · exact q
    have e : k' = k := by omega
    subst e
    refine ⟨c1, c2, ?_⟩
    obtain ⟨a1, a2, a3, a4⟩ := h.2.2.1 k' hkt
    obtain ⟨b1, b2', b3, b4⟩ := h'.2.2.1 k' c1
    rcases Int.lt_trichotomy (ln k') (ln' k') with q | q | q
    · exfalso
      exact b4 (st k' + ln k').toNat (by omega) (by omega) (runs_end h hkt (by omega))
    · exact q.symm
    · exfalso
      exact a4 (st' k' + ln' k').toNat (by omega) (by omega) (runs_end h' c1 (by omega))
theorem runs_unique {g g' : HP} {m tz tz' : Int} {b st ln st' ln' : Nat → Int} (h : IRuns g m tz b st ln) (h' : IRuns g' m tz' b st' ln') : tz' = tz ∧ ∀ k : Nat, (k : Int) < tz → st' k = st k ∧ ln' k = ln k := by
  have e1 := runs_uni h h'
  have e2 := runs_uni h' h
  refine ⟨?_, fun k hk => (e1 (k + 1) k (by omega) hk).2⟩
  have p1 := h.1
  have p2 := h'.1
  rcases Int.lt_trichotomy tz tz' with q | q | q
  · have := (e2 (tz.toNat + 1) tz.toNat (by omega) (by omega)).1
    omega
  · exact q.symm
  · have := (e1 (tz'.toNat + 1) tz'.toNat (by omega) (by omega)).1
    omega
theorem runs_congr {g g' : HP} {m tz : Int} {b b' st ln : Nat → Int} (h : IRuns g m tz b st ln) (hb : ∀ i : Nat, (i : Int) < m → b' i = b i) : IRuns g' m tz b' st ln := by
  obtain ⟨h1, h2, h3, h4, h5⟩ := h
  refine ⟨h1, h2, fun k hk => ?_, fun i hi hl => ?_, h5⟩
  · obtain ⟨a1, a2, a3, a4⟩ := h3 k hk
    exact ⟨a1, a2, a3, fun i q1 q2 => by rw [hb i (by omega)]; exact a4 i q1 q2⟩
  · rw [hb i hi] at hl
    exact h4 i hi hl
theorem rc_le (f : Nat → Int) : ∀ n : Nat, 0 ≤ rc f n ∧ rc f n ≤ n
  | 0 => by simp [rc]
  | n + 1 => by
    have := rc_le f n
    simp only [rc]
    split <;> omega
theorem rc_mono (f : Nat → Int) : ∀ (d n : Nat), rc f n ≤ rc f (n + d)
  | 0, n => Int.le_refl _
  | d + 1, n => by
    have := rc_mono f d n
    rw [← Nat.add_assoc]
    simp only [rc]
    split <;> omega
theorem rc_congr {f f' : Nat → Int} : ∀ n : Nat, (∀ i, i < n → f' i = f i) → rc f' n = rc f n
  | 0, _ => rfl
  | n + 1, h => by
    simp only [rc]
    rw [rc_congr n (fun i hi => h i (by omega)), h n (by omega)]
    by_cases e : n = 0
    · simp [e]
    · rw [h (n - 1) (by omega)]
set_option maxRecDepth 100000 in
set_option maxHeartbeats 4000000 in
theorem l_Help_countRuns (h : HP) (kr nr : Nat) (m : Int) (hkr : ∀ f, lenP 0 (rdAt SH0 kr) f = f nr) (hm : 0 ≤ m ∧ m ≤ nr ∧ nr < 10000) : ∀ (d : Nat) (i c w : Int) (x5 : Option AV), m - i < d → 0 ≤ i → i ≤ m → c = rc (h kr) i.toNat → (w = 0 ∧ (i = 0 ∨ lOf (h kr (i.toNat - 1)) = -1) ∨ w = 1 ∧ 0 < i ∧ ¬ lOf (h kr (i.toNat - 1)) = -1) → Wn Z4 mHelp_countRuns SH0 7 [some (.inr (.inr (kr))), some (.inl m), some (.inl c), some (.inl w), some (.inl i), x5] [] h (rtI (fun x h' => h' = h ∧ x = rc (h kr) m.toNat)) := by
  intro d
  induction d with
  | zero => intro i c w x5 h1 h2 h3; omega
  | succ d ih =>
    intro i c w x5 h1 h2 h3 h4 h5
    have hc := rc_le (h kr) i.toNat
    have hs : rc (h kr) (i + 1).toNat = rc (h kr) i.toNat + (if ¬ lOf (h kr i.toNat) = -1 ∧ (i.toNat = 0 ∨ lOf (h kr (i.toNat - 1)) = -1) then 1 else 0) := by
      rw [show (i + 1).toNat = i.toNat + 1 by omega]
      rfl
    have e1 : (i + 1).toNat - 1 = i.toNat := by omega
    refine go [7] 400 (k := ?_)
    simp (config := {maxSteps := 1000000}) only [↓pI_c, ↓pR_c, ↓pJ_c, ↓pV_c, ↓popN_0, ↓popN_s, ↓lI_0, ↓lR_0, ↓lJ_0, ↓lI_s, ↓lR_s, ↓lJ_s, ↓okSt_0, ↓okSt_I, ↓okSt_R, ↓okSt_N, ↓okSt_s, ↓rtI_s, ↓rtV_n, ↓brP_t, ↓brP_f, ↓sHelp_countRuns_0, ↓sHelp_countRuns_1, ↓sHelp_countRuns_2, ↓sHelp_countRuns_3, ↓sHelp_countRuns_4, ↓sHelp_countRuns_5, ↓sHelp_countRuns_7, ↓sHelp_countRuns_9, ↓sHelp_countRuns_10, ↓sHelp_countRuns_13, ↓sHelp_countRuns_14, ↓sHelp_countRuns_16, ↓sHelp_countRuns_17, ↓sHelp_countRuns_20, ↓sHelp_countRuns_21, ↓sHelp_countRuns_24, ↓sHelp_countRuns_25, ↓sHelp_countRuns_28, ↓sHelp_countRuns_29, ↓sHelp_countRuns_31, ↓sHelp_countRuns_33, ↓sHelp_countRuns_36, ↓sHelp_countRuns_37, ↓sHelp_countRuns_40, ↓sHelp_countRuns_43, ↓sHelp_countRuns_45, ↓sHelp_countRuns_46, ↓sHelp_countRuns_49, ↓sHelp_countRuns_52, ↓sHelp_countRuns_53, List.set_cons_zero, List.set_cons_succ, List.length_cons, List.length_nil, List.contains_cons, List.contains_nil, cat1, brP_d, true_and, and_true, not_false_eq_true, not_true_eq_false, if_true, if_false, Bool.or_false, Bool.false_or, Bool.or_true, Bool.true_or, Bool.false_eq_true, Bool.or_self, false_implies, true_implies, forall_const, and_self, implies_true, true_or, or_true, or_false, false_or, or_self, Classical.not_not, Int.reduceAdd, Int.reduceSub, Int.reduceMul, Int.reduceNeg, Int.reduceToNat, Int.reduceLT, Int.reduceLE, Int.reduceEq, Int.reduceNe, Int.reduceNatCast', Nat.reduceAdd, Nat.reduceSub, Nat.reduceLeDiff, Nat.reduceLT, Nat.reduceEqDiff, Nat.reduceBEq, reduceIte, nx_w, nx_c, up_n, up_s, up_f, ne_eq, Nat.reduceEqDiff, Option.some.injEq, Prod.mk.injEq, exists_eq_left', reduceCtorEq, ↓hkr]
    refine ⟨fun h6 => by rw [h4, show i = m by omega], fun h6 => ⟨by omega, ?_⟩⟩
    refine use_p (t_Help_letterOf h _) ?_
    rw [wr_id (x := i + 1) (by omega) (by omega), wr_id (x := c + 1) (by omega) (by omega)]
    refine ⟨fun h7 => ?_, fun h7 => ⟨fun h8 => ?_, fun h8 => ?_⟩⟩
    · refine ih (i + 1) c 0 _ (by omega) (by omega) (by omega) ?_ (Or.inl ⟨rfl, Or.inr (by rw [e1]; exact h7)⟩)
      rw [hs, if_neg (by grind), h4, Int.add_zero]
    · refine ih (i + 1) c 1 _ (by omega) (by omega) (by omega) ?_ (Or.inr ⟨rfl, by omega, by rw [e1]; exact h7⟩)
      rw [hs, if_neg (by grind), h4, Int.add_zero]
    · refine ih (i + 1) (c + 1) 1 _ (by omega) (by omega) (by omega) ?_ (Or.inr ⟨rfl, by omega, by rw [e1]; exact h7⟩)
      rw [hs, if_pos (by grind), h4]
set_option maxRecDepth 100000 in
set_option maxHeartbeats 4000000 in
theorem t_Help_countRuns (h : HP) (kr nr : Nat) (m : Int) (hkr : ∀ f, lenP 0 (rdAt SH0 kr) f = f nr) (hm : 0 ≤ m ∧ m ≤ nr ∧ nr < 10000) : trI mHelp_countRuns [.inr (.inr (kr)), .inl m] SH0 h (fun x h' => h' = h ∧ x = rc (h kr) m.toNat) := by
  refine startI [some (.inr (.inr (kr))), some (.inl m), none, none, none, none] mHelp_countRuns_c (go [7] 400 (k := ?_))
  simp (config := {maxSteps := 1000000}) only [↓pI_c, ↓pR_c, ↓pJ_c, ↓pV_c, ↓popN_0, ↓popN_s, ↓lI_0, ↓lR_0, ↓lJ_0, ↓lI_s, ↓lR_s, ↓lJ_s, ↓okSt_0, ↓okSt_I, ↓okSt_R, ↓okSt_N, ↓okSt_s, ↓rtI_s, ↓rtV_n, ↓brP_t, ↓brP_f, ↓sHelp_countRuns_0, ↓sHelp_countRuns_1, ↓sHelp_countRuns_2, ↓sHelp_countRuns_3, ↓sHelp_countRuns_4, ↓sHelp_countRuns_5, ↓sHelp_countRuns_7, ↓sHelp_countRuns_9, ↓sHelp_countRuns_10, ↓sHelp_countRuns_13, ↓sHelp_countRuns_14, ↓sHelp_countRuns_16, ↓sHelp_countRuns_17, ↓sHelp_countRuns_20, ↓sHelp_countRuns_21, ↓sHelp_countRuns_24, ↓sHelp_countRuns_25, ↓sHelp_countRuns_28, ↓sHelp_countRuns_29, ↓sHelp_countRuns_31, ↓sHelp_countRuns_33, ↓sHelp_countRuns_36, ↓sHelp_countRuns_37, ↓sHelp_countRuns_40, ↓sHelp_countRuns_43, ↓sHelp_countRuns_45, ↓sHelp_countRuns_46, ↓sHelp_countRuns_49, ↓sHelp_countRuns_52, ↓sHelp_countRuns_53, List.set_cons_zero, List.set_cons_succ, List.length_cons, List.length_nil, List.contains_cons, List.contains_nil, cat1, brP_d, true_and, and_true, not_false_eq_true, not_true_eq_false, if_true, if_false, Bool.or_false, Bool.false_or, Bool.or_true, Bool.true_or, Bool.false_eq_true, Bool.or_self, false_implies, true_implies, forall_const, and_self, implies_true, true_or, or_true, or_false, false_or, or_self, Classical.not_not, Int.reduceAdd, Int.reduceSub, Int.reduceMul, Int.reduceNeg, Int.reduceToNat, Int.reduceLT, Int.reduceLE, Int.reduceEq, Int.reduceNe, Int.reduceNatCast', Nat.reduceAdd, Nat.reduceSub, Nat.reduceLeDiff, Nat.reduceLT, Nat.reduceEqDiff, Nat.reduceBEq, reduceIte, nx_w, nx_c, up_n, up_s, up_f, ne_eq, Nat.reduceEqDiff, Option.some.injEq, Prod.mk.injEq, exists_eq_left', reduceCtorEq]
  exact l_Help_countRuns h kr nr m hkr hm (m.toNat + 1) 0 0 0 _ (by omega) (by omega) hm.1 rfl (Or.inl ⟨rfl, Or.inl rfl⟩)
set_option maxRecDepth 100000 in
set_option maxHeartbeats 4000000 in
theorem l_Model_runsOf (h : HP) (kr nr : Nat) (m : Int) (hkr : ∀ f, lenP 0 (rdAt SH0 kr) f = f nr) (hm : 0 ≤ m ∧ m ≤ nr ∧ nr < 10000) : ∀ (d : Nat) (i c : Int), m - i < d → 0 ≤ i → i ≤ m → c = rc (h kr) i.toNat → Wn Z4 mModel_runsOf SH0 4 [some (.inr (.inr (kr))), some (.inl m), some (.inl c), some (.inl i)] [] h (rtI (fun x h' => h' = h ∧ x = rc (h kr) m.toNat)) := by
  intro d
  induction d with
  | zero => intro i c h1 h2 h3; omega
  | succ d ih =>
    intro i c h1 h2 h3 h4
    have hc := rc_le (h kr) i.toNat
    have hs : rc (h kr) (i + 1).toNat = rc (h kr) i.toNat + (if ¬ lOf (h kr i.toNat) = -1 ∧ (i.toNat = 0 ∨ lOf (h kr (i.toNat - 1)) = -1) then 1 else 0) := by
      rw [show (i + 1).toNat = i.toNat + 1 by omega]
      rfl
    have hA := lOf_isL (h kr i.toNat)
    have hB := lOf_isL (h kr (i.toNat - 1))
    have n0 : ¬ (¬ lOf (h kr i.toNat) = -1 ∧ (i.toNat = 0 ∨ lOf (h kr (i.toNat - 1)) = -1)) → ¬ m ≤ i → Wn Z4 mModel_runsOf SH0 4 [some (.inr (.inr (kr))), some (.inl m), some (.inl (wr (c + 0))), some (.inl (wr (i + 1)))] [] h (rtI (fun x h' => h' = h ∧ x = rc (h kr) m.toNat)) := by
      intro hz hmi
      rw [wr_id (x := i + 1) (by omega) (by omega), wr_id (x := c + 0) (by omega) (by omega)]
      refine ih (i + 1) _ (by omega) (by omega) (by omega) ?_
      rw [hs, if_neg hz, h4]
    have n1 : (¬ lOf (h kr i.toNat) = -1 ∧ (i.toNat = 0 ∨ lOf (h kr (i.toNat - 1)) = -1)) → ¬ m ≤ i → Wn Z4 mModel_runsOf SH0 4 [some (.inr (.inr (kr))), some (.inl m), some (.inl (wr (c + 1))), some (.inl (wr (i + 1)))] [] h (rtI (fun x h' => h' = h ∧ x = rc (h kr) m.toNat)) := by
      intro hz hmi
      rw [wr_id (x := i + 1) (by omega) (by omega), wr_id (x := c + 1) (by omega) (by omega)]
      refine ih (i + 1) _ (by omega) (by omega) (by omega) ?_
      rw [hs, if_pos hz, h4]
    refine go [4] 400 (k := ?_)
    simp (config := {maxSteps := 1000000}) only [↓pI_c, ↓pR_c, ↓pJ_c, ↓pV_c, ↓popN_0, ↓popN_s, ↓lI_0, ↓lR_0, ↓lJ_0, ↓lI_s, ↓lR_s, ↓lJ_s, ↓okSt_0, ↓okSt_I, ↓okSt_R, ↓okSt_N, ↓okSt_s, ↓rtI_s, ↓rtV_n, ↓brP_t, ↓brP_f, ↓sModel_runsOf_0, ↓sModel_runsOf_1, ↓sModel_runsOf_2, ↓sModel_runsOf_3, ↓sModel_runsOf_4, ↓sModel_runsOf_5, ↓sModel_runsOf_6, ↓sModel_runsOf_9, ↓sModel_runsOf_10, ↓sModel_runsOf_11, ↓sModel_runsOf_12, ↓sModel_runsOf_13, ↓sModel_runsOf_16, ↓sModel_runsOf_19, ↓sModel_runsOf_20, ↓sModel_runsOf_23, ↓sModel_runsOf_24, ↓sModel_runsOf_25, ↓sModel_runsOf_26, ↓sModel_runsOf_27, ↓sModel_runsOf_28, ↓sModel_runsOf_31, ↓sModel_runsOf_34, ↓sModel_runsOf_35, ↓sModel_runsOf_38, ↓sModel_runsOf_39, ↓sModel_runsOf_40, ↓sModel_runsOf_41, ↓sModel_runsOf_44, ↓sModel_runsOf_47, ↓sModel_runsOf_48, List.set_cons_zero, List.set_cons_succ, List.length_cons, List.length_nil, List.contains_cons, List.contains_nil, cat1, brP_d, true_and, and_true, not_false_eq_true, not_true_eq_false, if_true, if_false, Bool.or_false, Bool.false_or, Bool.or_true, Bool.true_or, Bool.false_eq_true, Bool.or_self, false_implies, true_implies, forall_const, and_self, implies_true, true_or, or_true, or_false, false_or, or_self, Classical.not_not, Int.reduceAdd, Int.reduceSub, Int.reduceMul, Int.reduceNeg, Int.reduceToNat, Int.reduceLT, Int.reduceLE, Int.reduceEq, Int.reduceNe, Int.reduceNatCast', Nat.reduceAdd, Nat.reduceSub, Nat.reduceLeDiff, Nat.reduceLT, Nat.reduceEqDiff, Nat.reduceBEq, reduceIte, nx_w, nx_c, up_n, up_s, up_f, ne_eq, Nat.reduceEqDiff, Option.some.injEq, Prod.mk.injEq, exists_eq_left', reduceCtorEq, ↓hkr]
    refine ⟨fun h6 => by rw [h4, show i = m by omega], fun h6 => ⟨by omega, ?_⟩⟩
    refine use_q (t_Model_isLetter h _) ?_
    intro r hr
    refine ⟨fun h7 => n0 (by grind) h6, fun h7 => ⟨fun h8 => n1 (by grind) h6, fun h8 => ?_⟩⟩
    rw [wr_id (x := i - 1) (by omega) (by omega)]
    refine ⟨by omega, ?_⟩
    refine use_q (t_Model_isLetter h _) ?_
    intro r2 hr2
    rw [show (i - 1).toNat = i.toNat - 1 by omega] at hr2
    exact ⟨fun h9 => n0 (by grind) h6, fun h9 => n1 (by grind) h6⟩
set_option maxRecDepth 100000 in
set_option maxHeartbeats 4000000 in
theorem t_Model_runsOf (h : HP) (kr nr : Nat) (m : Int) (hkr : ∀ f, lenP 0 (rdAt SH0 kr) f = f nr) (hm : 0 ≤ m ∧ m ≤ nr ∧ nr < 10000) : trI mModel_runsOf [.inr (.inr (kr)), .inl m] SH0 h (fun x h' => h' = h ∧ x = rc (h kr) m.toNat) := by
  refine startI [some (.inr (.inr (kr))), some (.inl m), none, none] mModel_runsOf_c (go [4] 400 (k := ?_))
  simp (config := {maxSteps := 1000000}) only [↓pI_c, ↓pR_c, ↓pJ_c, ↓pV_c, ↓popN_0, ↓popN_s, ↓lI_0, ↓lR_0, ↓lJ_0, ↓lI_s, ↓lR_s, ↓lJ_s, ↓okSt_0, ↓okSt_I, ↓okSt_R, ↓okSt_N, ↓okSt_s, ↓rtI_s, ↓rtV_n, ↓brP_t, ↓brP_f, ↓sModel_runsOf_0, ↓sModel_runsOf_1, ↓sModel_runsOf_2, ↓sModel_runsOf_3, ↓sModel_runsOf_4, ↓sModel_runsOf_5, ↓sModel_runsOf_6, ↓sModel_runsOf_9, ↓sModel_runsOf_10, ↓sModel_runsOf_11, ↓sModel_runsOf_12, ↓sModel_runsOf_13, ↓sModel_runsOf_16, ↓sModel_runsOf_19, ↓sModel_runsOf_20, ↓sModel_runsOf_23, ↓sModel_runsOf_24, ↓sModel_runsOf_25, ↓sModel_runsOf_26, ↓sModel_runsOf_27, ↓sModel_runsOf_28, ↓sModel_runsOf_31, ↓sModel_runsOf_34, ↓sModel_runsOf_35, ↓sModel_runsOf_38, ↓sModel_runsOf_39, ↓sModel_runsOf_40, ↓sModel_runsOf_41, ↓sModel_runsOf_44, ↓sModel_runsOf_47, ↓sModel_runsOf_48, List.set_cons_zero, List.set_cons_succ, List.length_cons, List.length_nil, List.contains_cons, List.contains_nil, cat1, brP_d, true_and, and_true, not_false_eq_true, not_true_eq_false, if_true, if_false, Bool.or_false, Bool.false_or, Bool.or_true, Bool.true_or, Bool.false_eq_true, Bool.or_self, false_implies, true_implies, forall_const, and_self, implies_true, true_or, or_true, or_false, false_or, or_self, Classical.not_not, Int.reduceAdd, Int.reduceSub, Int.reduceMul, Int.reduceNeg, Int.reduceToNat, Int.reduceLT, Int.reduceLE, Int.reduceEq, Int.reduceNe, Int.reduceNatCast', Nat.reduceAdd, Nat.reduceSub, Nat.reduceLeDiff, Nat.reduceLT, Nat.reduceEqDiff, Nat.reduceBEq, reduceIte, nx_w, nx_c, up_n, up_s, up_f, ne_eq, Nat.reduceEqDiff, Option.some.injEq, Prod.mk.injEq, exists_eq_left', reduceCtorEq]
  exact l_Model_runsOf h kr nr m hkr hm (m.toNat + 1) 0 0 (by omega) (by omega) hm.1 rfl
