/-! line of both sides, the reference's part -/
def bcm (h : HP) (t : Int) : HP := up (up (cpy h 1 20 0 0 t.toNat) 19 4 t) 19 6 (-1)
set_option maxRecDepth 100000 in
set_option maxHeartbeats 4000000 in
theorem t_Line_become (h : HP) (t : Int) (ht : 0 ≤ t ∧ t ≤ 80) (hrc : rc (h 1) t.toNat ≤ 10) : trV mLine_become [.inr (.inr 19), .inr (.inr 1), .inl t] SH0 h (qSplit (bcm h t)) := by
  have e4 : bcm h t 19 4 = t := by unfold bcm; rw [up_f (by decide), up_s]
  have e20 : ∀ i, i < t.toNat → bcm h t 20 i = h 1 i := fun i hi => by
    unfold bcm
    rw [up_n (by decide), up_n (by decide)]
    unfold cpy
    rw [if_pos (by omega)]
    congr 1
    omega
  have hb : (∃ x x_1, 80 = x ∧ 92 = x_1 ∧ (0 ≤ t ∧ 0 ≤ (0 : Int) ∧ 0 ≤ (0 : Int) ∧ 0 + t ≤ (x : Int) ∧ 0 + t ≤ (x_1 : Int)) ∧ trV mLine_split [.inr (.inr 19)] SH0 (bcm h t) (qSplit (bcm h t))) := ⟨80, 92, rfl, rfl, by omega, t_Line_split (bcm h t) (by rw [e4]; omega) (by rw [e4, rc_congr t.toNat e20]; exact hrc)⟩
  refine startV [some (.inr (.inr 19)), some (.inr (.inr 1)), some (.inl t)] mLine_become_c (go [9999] 400 (k := ?_))
  simp (config := {maxSteps := 1000000}) only [↓pI_c, ↓pR_c, ↓pJ_c, ↓pV_c, ↓popN_0, ↓popN_s, ↓lI_0, ↓lR_0, ↓lJ_0, ↓lI_s, ↓lR_s, ↓lJ_s, ↓okSt_0, ↓okSt_I, ↓okSt_R, ↓okSt_N, ↓okSt_s, ↓rtI_s, ↓rtV_n, ↓brP_t, ↓brP_f, ↓sLine_become_0, ↓sLine_become_1, ↓sLine_become_2, ↓sLine_become_3, ↓rf_19_0, ↓sLine_become_6, ↓sLine_become_7, ↓sLine_become_8, ↓sLine_become_11, ↓sLine_become_12, ↓sLine_become_13, ↓rf_19_4, ↓sLine_become_16, ↓sLine_become_17, ↓sLine_become_18, ↓rf_19_6, ↓sLine_become_21, ↓sLine_become_22, ↓sLine_become_25, ↓ln_20, List.set_cons_zero, List.set_cons_succ, List.length_cons, List.length_nil, List.contains_cons, List.contains_nil, cat1, brP_d, true_and, and_true, not_false_eq_true, not_true_eq_false, if_true, if_false, Bool.or_false, Bool.false_or, Bool.or_true, Bool.true_or, Bool.false_eq_true, Bool.or_self, false_implies, true_implies, forall_const, and_self, implies_true, true_or, or_true, or_false, false_or, or_self, Classical.not_not, Int.reduceAdd, Int.reduceSub, Int.reduceMul, Int.reduceNeg, Int.reduceToNat, Int.reduceLT, Int.reduceLE, Int.reduceEq, Int.reduceNe, Int.reduceNatCast', Nat.reduceAdd, Nat.reduceSub, Nat.reduceLeDiff, Nat.reduceLT, Nat.reduceEqDiff, Nat.reduceBEq, reduceIte, nx_w, nx_c, up_n, up_s, up_f, ne_eq, Nat.reduceEqDiff, Option.some.injEq, Prod.mk.injEq, exists_eq_left', reduceCtorEq, ar_20, ob_19, ar_1.1, ar_20.1]
  obtain ⟨_, _, _, _, h3, h4⟩ := hb
  exact ⟨80, 92, rfl, rfl, by omega, _, h4, fun h' hq => hq⟩
def qLineC (h : HP) (r : Int) (h' : HP) : Prop := (10 < rc (h 1) (h 0 1).toNat ∧ r = -4 ∧ h' = up h 0 1 0) ∨ (rc (h 1) (h 0 1).toNat ≤ 10 ∧ r = h' 19 5 ∧ qSplit (bcm (up h 0 1 0) (h 0 1)) h')
set_option maxRecDepth 100000 in
set_option maxHeartbeats 4000000 in
theorem t_Help_line (h : HP) (ht : 0 ≤ h 0 1 ∧ h 0 1 ≤ 80) : trI mHelp_line [.inr (.inr 0)] SH0 h (qLineC h) := by
  have e1 : up h 0 1 0 1 = h 1 := up_ne (by decide)
  refine startI [some (.inr (.inr 0)), none] mHelp_line_c (go [9999] 400 (k := ?_))
  simp (config := {maxSteps := 1000000}) only [↓pI_c, ↓pR_c, ↓pJ_c, ↓pV_c, ↓popN_0, ↓popN_s, ↓lI_0, ↓lR_0, ↓lJ_0, ↓lI_s, ↓lR_s, ↓lJ_s, ↓okSt_0, ↓okSt_I, ↓okSt_R, ↓okSt_N, ↓okSt_s, ↓rtI_s, ↓rtV_n, ↓brP_t, ↓brP_f, ↓sHelp_line_0, ↓sHelp_line_1, ↓rf_0_1, ↓sHelp_line_4, ↓sHelp_line_5, ↓sHelp_line_6, ↓sHelp_line_7, ↓sHelp_line_10, ↓sHelp_line_11, ↓rf_0_0, ↓sHelp_line_14, ↓sHelp_line_15, ↓sHelp_line_18, ↓sHelp_line_20, ↓sHelp_line_23, ↓sHelp_line_25, ↓sHelp_line_26, ↓sHelp_line_27, ↓rf_0_7, ↓sHelp_line_30, ↓sHelp_line_31, ↓sHelp_line_34, ↓sHelp_line_35, ↓sHelp_line_38, ↓sHelp_line_39, ↓sHelp_line_42, ↓rf_19_5, ↓sHelp_line_45, ↓ln_1, List.set_cons_zero, List.set_cons_succ, List.length_cons, List.length_nil, List.contains_cons, List.contains_nil, cat1, brP_d, true_and, and_true, not_false_eq_true, not_true_eq_false, if_true, if_false, Bool.or_false, Bool.false_or, Bool.or_true, Bool.true_or, Bool.false_eq_true, Bool.or_self, false_implies, true_implies, forall_const, and_self, implies_true, true_or, or_true, or_false, false_or, or_self, Classical.not_not, Int.reduceAdd, Int.reduceSub, Int.reduceMul, Int.reduceNeg, Int.reduceToNat, Int.reduceLT, Int.reduceLE, Int.reduceEq, Int.reduceNe, Int.reduceNatCast', Nat.reduceAdd, Nat.reduceSub, Nat.reduceLeDiff, Nat.reduceLT, Nat.reduceEqDiff, Nat.reduceBEq, reduceIte, nx_w, nx_c, up_n, up_s, up_f, ne_eq, Nat.reduceEqDiff, Option.some.injEq, Prod.mk.injEq, exists_eq_left', reduceCtorEq, ar_1, ob_19]
  refine use_p (t_Help_countRuns (up h 0 1 0) 1 80 (h 0 1) (fun f => ln_1.2) ⟨ht.1, ht.2, by decide⟩) ?_
  rw [e1]
  refine ⟨fun h1 => ?_, fun h1 => Or.inl ⟨by omega, rfl, rfl⟩⟩
  refine trV_use (t_Line_become (up h 0 1 0) (h 0 1) ht (by rw [e1]; exact h1)) ?_
  intro h' hq
  exact Or.inr ⟨h1, rfl, hq⟩
set_option maxRecDepth 100000 in
set_option maxHeartbeats 4000000 in
theorem l_Model_line (h : HP) (t c : Int) (ht : 0 ≤ t ∧ t ≤ 80) : ∀ (d : Nat) (i : Int), t - i < d → 0 ≤ i → i ≤ t → Wn Z4 mModel_line SH0 35 [some (.inr (.inr 43)), some (.inl t), some (.inl c), some (.inl i)] [] (cpy h 56 57 0 0 i.toNat) (rtI (fun r h' => r = c ∧ h' = up (up (cpy h 56 57 0 0 t.toNat) 43 18 t) 43 21 (-1))) := by
  have e56 : ∀ n b, cpy h 56 57 0 0 n 56 b = h 56 b := fun n b => by rw [cpy_ne (by decide)]
  intro d
  induction d with
  | zero => intro i h1 h2 h3; omega
  | succ d ih =>
    intro i h1 h2 h3
    refine go [35] 400 (k := ?_)
    simp (config := {maxSteps := 1000000}) only [↓pI_c, ↓pR_c, ↓pJ_c, ↓pV_c, ↓popN_0, ↓popN_s, ↓lI_0, ↓lR_0, ↓lJ_0, ↓lI_s, ↓lR_s, ↓lJ_s, ↓okSt_0, ↓okSt_I, ↓okSt_R, ↓okSt_N, ↓okSt_s, ↓rtI_s, ↓rtV_n, ↓brP_t, ↓brP_f, ↓sModel_line_0, ↓sModel_line_1, ↓sModel_line_2, ↓rf_43_0, ↓sModel_line_5, ↓sModel_line_6, ↓rf_43_16, ↓sModel_line_9, ↓sModel_line_10, ↓sModel_line_11, ↓sModel_line_12, ↓sModel_line_15, ↓sModel_line_16, ↓rf_43_17, ↓sModel_line_19, ↓sModel_line_20, ↓sModel_line_23, ↓sModel_line_24, ↓sModel_line_25, ↓sModel_line_27, ↓sModel_line_30, ↓sModel_line_32, ↓sModel_line_33, ↓sModel_line_34, ↓sModel_line_35, ↓sModel_line_36, ↓sModel_line_37, ↓sModel_line_40, ↓sModel_line_41, ↓rf_43_19, ↓sModel_line_44, ↓sModel_line_45, ↓sModel_line_46, ↓sModel_line_49, ↓sModel_line_50, ↓sModel_line_51, ↓sModel_line_52, ↓sModel_line_55, ↓sModel_line_58, ↓sModel_line_59, ↓sModel_line_60, ↓rf_43_18, ↓sModel_line_63, ↓sModel_line_64, ↓sModel_line_65, ↓rf_43_21, ↓sModel_line_68, ↓sModel_line_69, ↓ln_56, ↓ln_57, List.set_cons_zero, List.set_cons_succ, List.length_cons, List.length_nil, List.contains_cons, List.contains_nil, cat1, brP_d, true_and, and_true, not_false_eq_true, not_true_eq_false, if_true, if_false, Bool.or_false, Bool.false_or, Bool.or_true, Bool.true_or, Bool.false_eq_true, Bool.or_self, false_implies, true_implies, forall_const, and_self, implies_true, true_or, or_true, or_false, false_or, or_self, Classical.not_not, Int.reduceAdd, Int.reduceSub, Int.reduceMul, Int.reduceNeg, Int.reduceToNat, Int.reduceLT, Int.reduceLE, Int.reduceEq, Int.reduceNe, Int.reduceNatCast', Nat.reduceAdd, Nat.reduceSub, Nat.reduceLeDiff, Nat.reduceLT, Nat.reduceEqDiff, Nat.reduceBEq, reduceIte, nx_w, nx_c, up_n, up_s, up_f, ne_eq, Nat.reduceEqDiff, Option.some.injEq, Prod.mk.injEq, exists_eq_left', reduceCtorEq, ar_56, e56]
    refine ⟨fun h5 => by rw [show i = t by omega], fun h5 => ⟨by omega, by omega, ?_⟩⟩
    rw [wr_id (x := i + 1) (by omega) (by omega)]
    have := ih (i + 1) (by omega) (by omega) (by omega)
    rw [show (i + 1).toNat = i.toNat + 1 by omega, ← cpy_s, Nat.zero_add] at this
    exact this
def qLineM (h : HP) (r : Int) (h' : HP) : Prop := (10 < rc (h 56) (h 43 16).toNat ∧ r = -4 ∧ h' = tpM h) ∨ (rc (h 56) (h 43 16).toNat ≤ 10 ∧ r = rc (h 56) (h 43 16).toNat ∧ h' = up (up (cpy (tpM h) 56 57 0 0 (h 43 16).toNat) 43 18 (h 43 16)) 43 21 (-1))
set_option maxRecDepth 100000 in
set_option maxHeartbeats 4000000 in
theorem t_Model_line (h : HP) (ht : 0 ≤ h 43 16 ∧ h 43 16 ≤ 80) : trI mModel_line [.inr (.inr 43)] SH0 h (qLineM h) := by
  have e1 : tpM h 56 = h 56 := tpM_ne (by decide)
  refine startI [some (.inr (.inr 43)), none, none, none] mModel_line_c (go [35] 400 (k := ?_))
  simp (config := {maxSteps := 1000000}) only [↓pI_c, ↓pR_c, ↓pJ_c, ↓pV_c, ↓popN_0, ↓popN_s, ↓lI_0, ↓lR_0, ↓lJ_0, ↓lI_s, ↓lR_s, ↓lJ_s, ↓okSt_0, ↓okSt_I, ↓okSt_R, ↓okSt_N, ↓okSt_s, ↓rtI_s, ↓rtV_n, ↓brP_t, ↓brP_f, ↓sModel_line_0, ↓sModel_line_1, ↓sModel_line_2, ↓rf_43_0, ↓sModel_line_5, ↓sModel_line_6, ↓rf_43_16, ↓sModel_line_9, ↓sModel_line_10, ↓sModel_line_11, ↓sModel_line_12, ↓sModel_line_15, ↓sModel_line_16, ↓rf_43_17, ↓sModel_line_19, ↓sModel_line_20, ↓sModel_line_23, ↓sModel_line_24, ↓sModel_line_25, ↓sModel_line_27, ↓sModel_line_30, ↓sModel_line_32, ↓sModel_line_33, ↓sModel_line_34, ↓sModel_line_35, ↓sModel_line_36, ↓sModel_line_37, ↓sModel_line_40, ↓sModel_line_41, ↓rf_43_19, ↓sModel_line_44, ↓sModel_line_45, ↓sModel_line_46, ↓sModel_line_49, ↓sModel_line_50, ↓sModel_line_51, ↓sModel_line_52, ↓sModel_line_55, ↓sModel_line_58, ↓sModel_line_59, ↓sModel_line_60, ↓rf_43_18, ↓sModel_line_63, ↓sModel_line_64, ↓sModel_line_65, ↓rf_43_21, ↓sModel_line_68, ↓sModel_line_69, ↓ln_56, ↓ln_57, List.set_cons_zero, List.set_cons_succ, List.length_cons, List.length_nil, List.contains_cons, List.contains_nil, cat1, brP_d, true_and, and_true, not_false_eq_true, not_true_eq_false, if_true, if_false, Bool.or_false, Bool.false_or, Bool.or_true, Bool.true_or, Bool.false_eq_true, Bool.or_self, false_implies, true_implies, forall_const, and_self, implies_true, true_or, or_true, or_false, false_or, or_self, Classical.not_not, Int.reduceAdd, Int.reduceSub, Int.reduceMul, Int.reduceNeg, Int.reduceToNat, Int.reduceLT, Int.reduceLE, Int.reduceEq, Int.reduceNe, Int.reduceNatCast', Nat.reduceAdd, Nat.reduceSub, Nat.reduceLeDiff, Nat.reduceLT, Nat.reduceEqDiff, Nat.reduceBEq, reduceIte, nx_w, nx_c, up_n, up_s, up_f, ne_eq, Nat.reduceEqDiff, Option.some.injEq, Prod.mk.injEq, exists_eq_left', reduceCtorEq, ar_56]
  refine use_p (t_Model_runsOf (tpM h) 56 80 (h 43 16) (fun f => ln_56.2) ⟨ht.1, ht.2, by decide⟩) ?_
  rw [e1]
  refine ⟨fun h1 => ?_, fun h1 => Or.inl ⟨by omega, rfl, rfl⟩⟩
  have := l_Model_line (tpM h) (h 43 16) (rc (h 56) (h 43 16).toNat) ht ((h 43 16).toNat + 1) 0 (by omega) (by omega) ht.1
  rw [show (0 : Int).toNat = 0 from rfl, cpy_0] at this
  refine Wt.mono ?_ this
  rintro v sh' h' ⟨rfl, hv⟩
  obtain ⟨r, rfl, h6, h7⟩ := rtI_ex hv
  exact ⟨rfl, Or.inr ⟨h1, h6, h7⟩⟩
-- part
theorem runs_add {g g' : HP} {s p tz : Int} {f st ln st' ln' : Nat → Int} (h : IRuns g s tz f st ln) (h0 : 0 ≤ s) (hsp : s < p) (hn : ∀ i : Nat, s ≤ i → (i : Int) < p → ¬ lOf (f i) = -1) (hp : s = 0 ∨ lOf (f (s.toNat - 1)) = -1) (h10 : tz < 10) (e1 : ∀ k : Nat, (k : Int) < tz → st' k = st k ∧ ln' k = ln k) (e2 : st' tz.toNat = s ∧ ln' tz.toNat = p - s) : IRuns g' p (tz + 1) f st' ln' := by
  obtain ⟨h1, h2, h3, h4, h5⟩ := h
  refine ⟨by omega, by omega, fun k hk => ?_, fun j hj hl => ?_, fun k hk => ?_⟩
  · by_cases e : (k : Int) = tz
    · rw [show k = tz.toNat by omega, e2.1, e2.2]
      exact ⟨h0, by omega, by omega, fun j q1 q2 => hn j q1 (by omega)⟩
    · obtain ⟨a1, a2, a3, a4⟩ := h3 k (by omega)
      rw [(e1 k (by omega)).1, (e1 k (by omega)).2]
      exact ⟨a1, a2, by omega, a4⟩
  · by_cases e : s ≤ (j : Int)
    · exact ⟨tz.toNat, by omega, by rw [e2.1]; omega, by rw [e2.1, e2.2]; omega⟩
    · obtain ⟨k, q1, q2, q3⟩ := h4 j (by omega) hl
      exact ⟨k, by omega, by rw [(e1 k q1).1]; exact q2, by rw [(e1 k q1).1, (e1 k q1).2]; exact q3⟩
  · by_cases e : (k : Int) + 1 = tz
    · rw [show k + 1 = tz.toNat by omega, e2.1, (e1 k (by omega)).1, (e1 k (by omega)).2]
      obtain ⟨a1, a2, a3, a4⟩ := h3 k (by omega)
      rcases Int.lt_or_le (st k + ln k) s with q | q
      · exact q
      · exfalso
        have := a4 (s.toNat - 1) (by omega) (by omega)
        rcases hp with z | z
        · omega
        · exact this z
    · rw [(e1 k (by omega)).1, (e1 k (by omega)).2, (e1 (k + 1) (by push_cast; omega)).1]
      exact h5 k (by omega)
theorem rc_run {f : Nat → Int} {s : Nat} : ∀ n : Nat, (∀ i, s ≤ i → i < s + n + 1 → ¬ lOf (f i) = -1) → (s = 0 ∨ lOf (f (s - 1)) = -1) → rc f (s + n + 1) = rc f s + 1
  | 0, h, hp => by
    show rc f s + (if ¬ lOf (f s) = -1 ∧ (s = 0 ∨ lOf (f (s - 1)) = -1) then 1 else 0) = _
    rw [if_pos ⟨h s (by omega) (by omega), hp⟩]
  | n + 1, h, hp => by
    have := rc_run n (fun i q1 q2 => h i q1 (by omega)) hp
    show rc f (s + n + 1) + (if ¬ lOf (f (s + n + 1)) = -1 ∧ (s + n + 1 = 0 ∨ lOf (f (s + n + 1 - 1)) = -1) then 1 else 0) = _
    rw [if_neg (by rintro ⟨_, z | z⟩; omega; exact h (s + n + 1 - 1) (by omega) (by omega) z), Int.add_zero]
    exact this

set_option maxRecDepth 100000 in
set_option maxHeartbeats 4000000 in
theorem i_Model_part (h : HP) (s : Int) (hm : 0 ≤ h 43 18 ∧ h 43 18 ≤ 300) (P : Option AV → HP → Prop) (hX : ∀ p : Int, s ≤ p → p ≤ h 43 18 → (∀ i : Nat, s ≤ i → (i : Int) < p → ¬ lOf (h 57 i) = -1) → (p = h 43 18 ∨ lOf (h 57 p.toNat) = -1) → Wn Z4 mModel_part SH0 63 [some (.inr (.inr 43)), some (.inl p)] [] h P) : ∀ (d : Nat) (p : Int), h 43 18 - p < d → 0 ≤ s → s ≤ p → p ≤ h 43 18 → (∀ i : Nat, s ≤ i → (i : Int) < p → ¬ lOf (h 57 i) = -1) → Wn Z4 mModel_part SH0 37 [some (.inr (.inr 43)), some (.inl p)] [] h P := by
  intro d
  induction d with
  | zero => intro p h1 h2 h3 h4; omega
  | succ d ih =>
    intro p h1 h2 h3 h4 h5
    have hA := lOf_isL (h 57 p.toNat)
    refine go [37,63] 400 (k := ?_)
    simp (config := {maxSteps := 1000000}) only [↓pI_c, ↓pR_c, ↓pJ_c, ↓pV_c, ↓popN_0, ↓popN_s, ↓lI_0, ↓lR_0, ↓lJ_0, ↓lI_s, ↓lR_s, ↓lJ_s, ↓okSt_0, ↓okSt_I, ↓okSt_R, ↓okSt_N, ↓okSt_s, ↓rtI_s, ↓rtV_n, ↓brP_t, ↓brP_f, ↓sModel_part_0, ↓sModel_part_1, ↓sModel_part_2, ↓rf_43_22, ↓sModel_part_5, ↓sModel_part_6, ↓sModel_part_7, ↓sModel_part_8, ↓sModel_part_9, ↓rf_43_18, ↓sModel_part_12, ↓sModel_part_15, ↓sModel_part_16, ↓rf_43_19, ↓sModel_part_19, ↓sModel_part_20, ↓sModel_part_21, ↓sModel_part_24, ↓sModel_part_27, ↓sModel_part_28, ↓rf_43_23, ↓sModel_part_31, ↓sModel_part_32, ↓sModel_part_35, ↓sModel_part_36, ↓sModel_part_37, ↓sModel_part_38, ↓sModel_part_39, ↓sModel_part_42, ↓sModel_part_45, ↓sModel_part_46, ↓sModel_part_49, ↓sModel_part_50, ↓sModel_part_51, ↓sModel_part_54, ↓sModel_part_57, ↓sModel_part_60, ↓sModel_part_63, ↓sModel_part_64, ↓rf_43_24, ↓sModel_part_67, ↓sModel_part_68, ↓sModel_part_71, ↓sModel_part_72, ↓sModel_part_73, ↓sModel_part_76, ↓sModel_part_77, ↓sModel_part_80, ↓sModel_part_81, ↓sModel_part_82, ↓sModel_part_83, ↓sModel_part_84, ↓rf_43_25, ↓sModel_part_87, ↓sModel_part_88, ↓sModel_part_91, ↓sModel_part_92, ↓sModel_part_93, ↓sModel_part_96, ↓sModel_part_97, ↓sModel_part_100, ↓sModel_part_101, ↓sModel_part_104, ↓sModel_part_105, ↓sModel_part_106, ↓sModel_part_109, ↓sModel_part_110, ↓sModel_part_113, ↓sModel_part_114, ↓sModel_part_117, ↓sModel_part_118, ↓sModel_part_119, ↓sModel_part_120, ↓sModel_part_123, ↓sModel_part_124, ↓sModel_part_125, ↓sModel_part_128, ↓sModel_part_131, ↓sModel_part_134, ↓sModel_part_137, ↓ln_57, ↓ln_59, ↓ln_60, ↓ln_61, List.set_cons_zero, List.set_cons_succ, List.length_cons, List.length_nil, List.contains_cons, List.contains_nil, cat1, brP_d, true_and, and_true, not_false_eq_true, not_true_eq_false, if_true, if_false, Bool.or_false, Bool.false_or, Bool.or_true, Bool.true_or, Bool.false_eq_true, Bool.or_self, false_implies, true_implies, forall_const, and_self, implies_true, true_or, or_true, or_false, false_or, or_self, Classical.not_not, Int.reduceAdd, Int.reduceSub, Int.reduceMul, Int.reduceNeg, Int.reduceToNat, Int.reduceLT, Int.reduceLE, Int.reduceEq, Int.reduceNe, Int.reduceNatCast', Nat.reduceAdd, Nat.reduceSub, Nat.reduceLeDiff, Nat.reduceLT, Nat.reduceEqDiff, Nat.reduceBEq, reduceIte, nx_w, nx_c, up_n, up_s, up_f, ne_eq, Nat.reduceEqDiff, Option.some.injEq, Prod.mk.injEq, exists_eq_left', reduceCtorEq, ar_57, ar_59, ob_43]
    refine ⟨fun h6 => hX p h3 h4 h5 (Or.inl (by omega)), fun h6 => ⟨by omega, ?_⟩⟩
    refine use_q (t_Model_isLetter h _) ?_
    intro r hr
    rw [wr_id (x := p + 1) (by omega) (by omega)]
    refine ⟨fun h7 => hX p h3 h4 h5 (Or.inr (by grind)), fun h7 => ih (p + 1) (by omega) (by omega) (by omega) (by omega) (fun i q1 q2 => ?_)⟩
    by_cases e : (i : Int) = p
    · rw [show i = p.toNat by omega]; grind
    · exact h5 i q1 (by omega)
def prF (h0 h : HP) : Prop := (∀ a, a ≠ 43 → a ≠ 59 → a ≠ 60 → a ≠ 61 → h a = h0 a) ∧ ∀ b, b ≠ 22 → h 43 b = h0 43 b
def prW (h0 h : HP) (t : Int) : Prop := ∀ k : Nat, (k : Int) < t → fndM h0 (fun j => sm (h0 57 ((h 59 k).toNat + j))) (h 60 k) (h0 43 6) (h 61 k)
def qPart (h0 h : HP) : Prop := prF h0 h ∧ IRuns h (h0 43 18) (h 43 22) (h0 57) (h 59) (h 60) ∧ prW h0 h (h 43 22)
theorem fndM_congr {h h' : HP} {r : Nat → Int} {l n x : Int} (e48 : h' 48 = h 48) (e49 : h' 49 = h 49) (e50 : h' 50 = h 50) : fndM h' r l n x ↔ fndM h r l n x := by
  unfold fndM mtM
  rw [e48, e49, e50]
set_option maxRecDepth 100000 in
set_option maxHeartbeats 4000000 in
theorem l_Model_part (h0 : HP) (hm : 0 ≤ h0 43 18 ∧ h0 43 18 ≤ 300) (hrc : rc (h0 57) (h0 43 18).toNat ≤ 10) (hn : 0 ≤ h0 43 6 ∧ h0 43 6 ≤ 90) (hln : ∀ k : Nat, (k : Int) < h0 43 6 → h0 49 k ≤ 12) : ∀ (d : Nat) (i : Int) (h : HP), h0 43 18 - i < d → 0 ≤ i → i ≤ h0 43 18 → prF h0 h → IRuns h i (h 43 22) (h0 57) (h 59) (h 60) → h 43 22 = rc (h0 57) i.toNat → (i < h0 43 18 → ¬ lOf (h0 57 i.toNat) = -1 → i = 0 ∨ lOf (h0 57 (i.toNat - 1)) = -1) → prW h0 h (h 43 22) → Wn Z4 mModel_part SH0 7 [some (.inr (.inr 43)), some (.inl i)] [] h (rtV (qPart h0)) := by
  intro d
  induction d with
  | zero => intro i h h1 h2 h3; omega
  | succ d ih =>
    intro i h h1 h2 h3 h4 h5 h6 h7 h8
    have f57 : h 57 = h0 57 := h4.1 57 (by decide) (by decide) (by decide) (by decide)
    have f18 : h 43 18 = h0 43 18 := h4.2 18 (by decide)
    have hA := lOf_isL (h0 57 i.toNat)
    have htz := h5.1
    have hmono := rc_mono (h0 57) ((h0 43 18).toNat - i.toNat) i.toNat
    rw [show i.toNat + ((h0 43 18).toNat - i.toNat) = (h0 43 18).toNat by omega] at hmono
    refine go [7,37] 400 (k := ?_)
    simp (config := {maxSteps := 1000000}) only [↓pI_c, ↓pR_c, ↓pJ_c, ↓pV_c, ↓popN_0, ↓popN_s, ↓lI_0, ↓lR_0, ↓lJ_0, ↓lI_s, ↓lR_s, ↓lJ_s, ↓okSt_0, ↓okSt_I, ↓okSt_R, ↓okSt_N, ↓okSt_s, ↓rtI_s, ↓rtV_n, ↓brP_t, ↓brP_f, ↓sModel_part_0, ↓sModel_part_1, ↓sModel_part_2, ↓rf_43_22, ↓sModel_part_5, ↓sModel_part_6, ↓sModel_part_7, ↓sModel_part_8, ↓sModel_part_9, ↓rf_43_18, ↓sModel_part_12, ↓sModel_part_15, ↓sModel_part_16, ↓rf_43_19, ↓sModel_part_19, ↓sModel_part_20, ↓sModel_part_21, ↓sModel_part_24, ↓sModel_part_27, ↓sModel_part_28, ↓rf_43_23, ↓sModel_part_31, ↓sModel_part_32, ↓sModel_part_35, ↓sModel_part_36, ↓sModel_part_37, ↓sModel_part_38, ↓sModel_part_39, ↓sModel_part_42, ↓sModel_part_45, ↓sModel_part_46, ↓sModel_part_49, ↓sModel_part_50, ↓sModel_part_51, ↓sModel_part_54, ↓sModel_part_57, ↓sModel_part_60, ↓sModel_part_63, ↓sModel_part_64, ↓rf_43_24, ↓sModel_part_67, ↓sModel_part_68, ↓sModel_part_71, ↓sModel_part_72, ↓sModel_part_73, ↓sModel_part_76, ↓sModel_part_77, ↓sModel_part_80, ↓sModel_part_81, ↓sModel_part_82, ↓sModel_part_83, ↓sModel_part_84, ↓rf_43_25, ↓sModel_part_87, ↓sModel_part_88, ↓sModel_part_91, ↓sModel_part_92, ↓sModel_part_93, ↓sModel_part_96, ↓sModel_part_97, ↓sModel_part_100, ↓sModel_part_101, ↓sModel_part_104, ↓sModel_part_105, ↓sModel_part_106, ↓sModel_part_109, ↓sModel_part_110, ↓sModel_part_113, ↓sModel_part_114, ↓sModel_part_117, ↓sModel_part_118, ↓sModel_part_119, ↓sModel_part_120, ↓sModel_part_123, ↓sModel_part_124, ↓sModel_part_125, ↓sModel_part_128, ↓sModel_part_131, ↓sModel_part_134, ↓sModel_part_137, ↓ln_57, ↓ln_59, ↓ln_60, ↓ln_61, List.set_cons_zero, List.set_cons_succ, List.length_cons, List.length_nil, List.contains_cons, List.contains_nil, cat1, brP_d, true_and, and_true, not_false_eq_true, not_true_eq_false, if_true, if_false, Bool.or_false, Bool.false_or, Bool.or_true, Bool.true_or, Bool.false_eq_true, Bool.or_self, false_implies, true_implies, forall_const, and_self, implies_true, true_or, or_true, or_false, false_or, or_self, Classical.not_not, Int.reduceAdd, Int.reduceSub, Int.reduceMul, Int.reduceNeg, Int.reduceToNat, Int.reduceLT, Int.reduceLE, Int.reduceEq, Int.reduceNe, Int.reduceNatCast', Nat.reduceAdd, Nat.reduceSub, Nat.reduceLeDiff, Nat.reduceLT, Nat.reduceEqDiff, Nat.reduceBEq, reduceIte, nx_w, nx_c, up_n, up_s, up_f, ne_eq, Nat.reduceEqDiff, Option.some.injEq, Prod.mk.injEq, exists_eq_left', reduceCtorEq, ar_57, ar_59, ob_43, f57, f18]
    refine ⟨fun h9 => ?_, fun h9 => ⟨by omega, ?_⟩⟩
    · have e : i = h0 43 18 := by omega
      subst e
      exact ⟨h4, h5, h8⟩
    · refine use_q (t_Model_isLetter h _) ?_
      intro r hr
      constructor
      · intro h10
        have hnl : lOf (h0 57 i.toNat) = -1 := by grind
        rw [wr_id (x := i + 1) (by omega) (by omega)]
        refine ih (i + 1) h (by omega) (by omega) (by omega) h4 (runs_skip h5 h2 hnl) ?_ (fun _ _ => Or.inr (by rw [show (i + 1).toNat - 1 = i.toNat by omega]; exact hnl)) h8
        rw [h6, show (i + 1).toNat = i.toNat + 1 by omega]
        show _ = rc (h0 57) i.toNat + (if ¬ lOf (h0 57 i.toNat) = -1 ∧ (i.toNat = 0 ∨ lOf (h0 57 (i.toNat - 1)) = -1) then 1 else 0)
        rw [if_neg (fun z => z.1 hnl), Int.add_zero]
      · intro h10
        have hl : ¬ lOf (h0 57 i.toNat) = -1 := by grind
        have hst := h7 (by omega) hl
        have hst' : i.toNat = 0 ∨ lOf (h0 57 (i.toNat - 1)) = -1 := by rcases hst with z | z; exact Or.inl (by omega); exact Or.inr z
        have hlt : h 43 22 < 10 := by
          have := rc_run (f := h0 57) (s := i.toNat) 0 (fun j q1 q2 => by rw [show j = i.toNat by omega]; exact hl) hst'
          have m2 := rc_mono (h0 57) ((h0 43 18).toNat - (i.toNat + 0 + 1)) (i.toNat + 0 + 1)
          rw [show i.toNat + 0 + 1 + ((h0 43 18).toNat - (i.toNat + 0 + 1)) = (h0 43 18).toNat by omega] at m2
          omega
        refine ⟨by omega, ?_⟩
        have k57 : up h 59 (h 43 22).toNat i 57 = h0 57 := by rw [up_ne (by decide)]; exact f57
        have k18 : up h 59 (h 43 22).toNat i 43 18 = h0 43 18 := by rw [up_n (by decide)]; exact f18
        refine i_Model_part (up h 59 (h 43 22).toNat i) i (by rw [k18]; exact hm) _ ?_ ((h0 43 18 - i).toNat + 1) i (by rw [k18]; omega) h2 (by omega) (by rw [k18]; exact h3) (fun j q1 q2 => by omega)
        rw [k57, k18]
        intro p q1 q2 q3 q4
        have hip : i < p := by
          rcases Int.lt_or_le i p with z | z
          · exact z
          · exfalso
            have : p = i := by omega
            subst this
            rcases q4 with z | z
            · omega
            · exact hl z
        have k22 : up h 59 (h 43 22).toNat i 43 22 = h 43 22 := up_n (by decide)
        have k59 : up h 59 (h 43 22).toNat i 59 (h 43 22).toNat = i := up_s
        refine go [7] 400 (k := ?_)
        simp (config := {maxSteps := 1000000}) only [↓pI_c, ↓pR_c, ↓pJ_c, ↓pV_c, ↓popN_0, ↓popN_s, ↓lI_0, ↓lR_0, ↓lJ_0, ↓lI_s, ↓lR_s, ↓lJ_s, ↓okSt_0, ↓okSt_I, ↓okSt_R, ↓okSt_N, ↓okSt_s, ↓rtI_s, ↓rtV_n, ↓brP_t, ↓brP_f, ↓sModel_part_0, ↓sModel_part_1, ↓sModel_part_2, ↓rf_43_22, ↓sModel_part_5, ↓sModel_part_6, ↓sModel_part_7, ↓sModel_part_8, ↓sModel_part_9, ↓rf_43_18, ↓sModel_part_12, ↓sModel_part_15, ↓sModel_part_16, ↓rf_43_19, ↓sModel_part_19, ↓sModel_part_20, ↓sModel_part_21, ↓sModel_part_24, ↓sModel_part_27, ↓sModel_part_28, ↓rf_43_23, ↓sModel_part_31, ↓sModel_part_32, ↓sModel_part_35, ↓sModel_part_36, ↓sModel_part_37, ↓sModel_part_38, ↓sModel_part_39, ↓sModel_part_42, ↓sModel_part_45, ↓sModel_part_46, ↓sModel_part_49, ↓sModel_part_50, ↓sModel_part_51, ↓sModel_part_54, ↓sModel_part_57, ↓sModel_part_60, ↓sModel_part_63, ↓sModel_part_64, ↓rf_43_24, ↓sModel_part_67, ↓sModel_part_68, ↓sModel_part_71, ↓sModel_part_72, ↓sModel_part_73, ↓sModel_part_76, ↓sModel_part_77, ↓sModel_part_80, ↓sModel_part_81, ↓sModel_part_82, ↓sModel_part_83, ↓sModel_part_84, ↓rf_43_25, ↓sModel_part_87, ↓sModel_part_88, ↓sModel_part_91, ↓sModel_part_92, ↓sModel_part_93, ↓sModel_part_96, ↓sModel_part_97, ↓sModel_part_100, ↓sModel_part_101, ↓sModel_part_104, ↓sModel_part_105, ↓sModel_part_106, ↓sModel_part_109, ↓sModel_part_110, ↓sModel_part_113, ↓sModel_part_114, ↓sModel_part_117, ↓sModel_part_118, ↓sModel_part_119, ↓sModel_part_120, ↓sModel_part_123, ↓sModel_part_124, ↓sModel_part_125, ↓sModel_part_128, ↓sModel_part_131, ↓sModel_part_134, ↓sModel_part_137, ↓ln_57, ↓ln_59, ↓ln_60, ↓ln_61, List.set_cons_zero, List.set_cons_succ, List.length_cons, List.length_nil, List.contains_cons, List.contains_nil, cat1, brP_d, true_and, and_true, not_false_eq_true, not_true_eq_false, if_true, if_false, Bool.or_false, Bool.false_or, Bool.or_true, Bool.true_or, Bool.false_eq_true, Bool.or_self, false_implies, true_implies, forall_const, and_self, implies_true, true_or, or_true, or_false, false_or, or_self, Classical.not_not, Int.reduceAdd, Int.reduceSub, Int.reduceMul, Int.reduceNeg, Int.reduceToNat, Int.reduceLT, Int.reduceLE, Int.reduceEq, Int.reduceNe, Int.reduceNatCast', Nat.reduceAdd, Nat.reduceSub, Nat.reduceLeDiff, Nat.reduceLT, Nat.reduceEqDiff, Nat.reduceBEq, reduceIte, nx_w, nx_c, up_n, up_s, up_f, ne_eq, Nat.reduceEqDiff, Option.some.injEq, Prod.mk.injEq, exists_eq_left', reduceCtorEq, ar_57, ar_59, ob_43, k22, k59]
        rw [wr_id (x := p - i) (by omega) (by omega)]
        refine ⟨by omega, by omega, by omega, by omega, ?_⟩
        have j22 : up (up h 59 (h 43 22).toNat i) 60 (h 43 22).toNat (p - i) 43 22 = h 43 22 := by rw [up_n (by decide)]; exact k22
        have j57 : up (up h 59 (h 43 22).toNat i) 60 (h 43 22).toNat (p - i) 57 = h0 57 := by rw [up_ne (by decide)]; exact k57
        have j6 : up (up h 59 (h 43 22).toNat i) 60 (h 43 22).toNat (p - i) 43 6 = h0 43 6 := by rw [up_n (by decide), up_n (by decide)]; exact h4.2 6 (by decide)
        have jj : ∀ a, a ≠ 43 → a ≠ 59 → a ≠ 60 → a ≠ 61 → up (up h 59 (h 43 22).toNat i) 60 (h 43 22).toNat (p - i) a = h0 a := fun a a1 a2 a3 a4 => by rw [up_ne a3, up_ne a2]; exact h4.1 a a1 a2 a3 a4
        refine use_q (t_Model_named (up (up h 59 (h 43 22).toNat i) 60 (h 43 22).toNat (p - i)) 57 300 i (p - i) (fun f => ln_57.2) (by omega) (by omega) (by rw [j6]; exact hn) (by rw [j6, jj 49 (by decide) (by decide) (by decide) (by decide)]; exact hln)) ?_
        intro x hx
        rw [j57, j6, fndM_congr (jj 48 (by decide) (by decide) (by decide) (by decide)) (jj 49 (by decide) (by decide) (by decide) (by decide)) (jj 50 (by decide) (by decide) (by decide) (by decide))] at hx
        rw [j22, wr_id (x := h 43 22 + 1) (by omega) (by omega)]
        have t22 : up (up (up (up h 59 (h 43 22).toNat i) 60 (h 43 22).toNat (p - i)) 61 (h 43 22).toNat x) 43 22 (h 43 22 + 1) 43 22 = h 43 22 + 1 := up_s
        have t59 : ∀ b, up (up (up (up h 59 (h 43 22).toNat i) 60 (h 43 22).toNat (p - i)) 61 (h 43 22).toNat x) 43 22 (h 43 22 + 1) 59 b = if b = (h 43 22).toNat then i else h 59 b := fun b => by rw [up_n (by decide), up_n (by decide), up_n (by decide), up_a]
        have t60 : ∀ b, up (up (up (up h 59 (h 43 22).toNat i) 60 (h 43 22).toNat (p - i)) 61 (h 43 22).toNat x) 43 22 (h 43 22 + 1) 60 b = if b = (h 43 22).toNat then p - i else h 60 b := fun b => by rw [up_n (by decide), up_n (by decide), up_a, up_n (by decide)]
        have t61 : ∀ b, up (up (up (up h 59 (h 43 22).toNat i) 60 (h 43 22).toNat (p - i)) 61 (h 43 22).toNat x) 43 22 (h 43 22 + 1) 61 b = if b = (h 43 22).toNat then x else h 61 b := fun b => by rw [up_n (by decide), up_a, up_n (by decide), up_n (by decide)]
        refine ⟨by omega, ih p _ (by omega) (by omega) q2 ⟨fun a a1 a2 a3 a4 => by rw [up_ne a1, up_ne a4, up_ne a3, up_ne a2]; exact h4.1 a a1 a2 a3 a4, fun b hb => by rw [up_f hb, up_n (by decide), up_n (by decide), up_n (by decide)]; exact h4.2 b hb⟩ ?_ ?_ ?_ ?_⟩
        · rw [t22]
          exact runs_add h5 h2 hip q3 hst hlt (fun k hk => ⟨by rw [t59, if_neg (by omega)], by rw [t60, if_neg (by omega)]⟩) ⟨by rw [t59, if_pos rfl], by rw [t60, if_pos rfl]⟩
        · rw [t22, h6]
          have := rc_run (f := h0 57) (s := i.toNat) (p.toNat - i.toNat - 1) (fun j z1 z2 => q3 j (by omega) (by omega)) hst'
          rw [show i.toNat + (p.toNat - i.toNat - 1) + 1 = p.toNat by omega] at this
          omega
        · intro z1 z2
          rcases q4 with z | z
          · omega
          · exact absurd z z2
        · rw [t22]
          intro k hk
          rw [t59, t60, t61]
          by_cases e : (k : Int) = h 43 22
          · rw [show k = (h 43 22).toNat by omega, if_pos rfl, if_pos rfl, if_pos rfl]
            exact hx
          · rw [if_neg (by omega), if_neg (by omega), if_neg (by omega)]
            exact h8 k (by omega)
set_option maxRecDepth 100000 in
set_option maxHeartbeats 4000000 in
theorem t_Model_part (h : HP) (hm : 0 ≤ h 43 18 ∧ h 43 18 ≤ 300) (hrc : rc (h 57) (h 43 18).toNat ≤ 10) (hn : 0 ≤ h 43 6 ∧ h 43 6 ≤ 90) (hln : ∀ k : Nat, (k : Int) < h 43 6 → h 49 k ≤ 12) : trV mModel_part [.inr (.inr 43)] SH0 h (qPart h) := by
  refine startV [some (.inr (.inr 43)), none] mModel_part_c (go [7] 400 (k := ?_))
  simp (config := {maxSteps := 1000000}) only [↓pI_c, ↓pR_c, ↓pJ_c, ↓pV_c, ↓popN_0, ↓popN_s, ↓lI_0, ↓lR_0, ↓lJ_0, ↓lI_s, ↓lR_s, ↓lJ_s, ↓okSt_0, ↓okSt_I, ↓okSt_R, ↓okSt_N, ↓okSt_s, ↓rtI_s, ↓rtV_n, ↓brP_t, ↓brP_f, ↓sModel_part_0, ↓sModel_part_1, ↓sModel_part_2, ↓rf_43_22, ↓sModel_part_5, ↓sModel_part_6, ↓sModel_part_7, ↓sModel_part_8, ↓sModel_part_9, ↓rf_43_18, ↓sModel_part_12, ↓sModel_part_15, ↓sModel_part_16, ↓rf_43_19, ↓sModel_part_19, ↓sModel_part_20, ↓sModel_part_21, ↓sModel_part_24, ↓sModel_part_27, ↓sModel_part_28, ↓rf_43_23, ↓sModel_part_31, ↓sModel_part_32, ↓sModel_part_35, ↓sModel_part_36, ↓sModel_part_37, ↓sModel_part_38, ↓sModel_part_39, ↓sModel_part_42, ↓sModel_part_45, ↓sModel_part_46, ↓sModel_part_49, ↓sModel_part_50, ↓sModel_part_51, ↓sModel_part_54, ↓sModel_part_57, ↓sModel_part_60, ↓sModel_part_63, ↓sModel_part_64, ↓rf_43_24, ↓sModel_part_67, ↓sModel_part_68, ↓sModel_part_71, ↓sModel_part_72, ↓sModel_part_73, ↓sModel_part_76, ↓sModel_part_77, ↓sModel_part_80, ↓sModel_part_81, ↓sModel_part_82, ↓sModel_part_83, ↓sModel_part_84, ↓rf_43_25, ↓sModel_part_87, ↓sModel_part_88, ↓sModel_part_91, ↓sModel_part_92, ↓sModel_part_93, ↓sModel_part_96, ↓sModel_part_97, ↓sModel_part_100, ↓sModel_part_101, ↓sModel_part_104, ↓sModel_part_105, ↓sModel_part_106, ↓sModel_part_109, ↓sModel_part_110, ↓sModel_part_113, ↓sModel_part_114, ↓sModel_part_117, ↓sModel_part_118, ↓sModel_part_119, ↓sModel_part_120, ↓sModel_part_123, ↓sModel_part_124, ↓sModel_part_125, ↓sModel_part_128, ↓sModel_part_131, ↓sModel_part_134, ↓sModel_part_137, ↓ln_57, ↓ln_59, ↓ln_60, ↓ln_61, List.set_cons_zero, List.set_cons_succ, List.length_cons, List.length_nil, List.contains_cons, List.contains_nil, cat1, brP_d, true_and, and_true, not_false_eq_true, not_true_eq_false, if_true, if_false, Bool.or_false, Bool.false_or, Bool.or_true, Bool.true_or, Bool.false_eq_true, Bool.or_self, false_implies, true_implies, forall_const, and_self, implies_true, true_or, or_true, or_false, false_or, or_self, Classical.not_not, Int.reduceAdd, Int.reduceSub, Int.reduceMul, Int.reduceNeg, Int.reduceToNat, Int.reduceLT, Int.reduceLE, Int.reduceEq, Int.reduceNe, Int.reduceNatCast', Nat.reduceAdd, Nat.reduceSub, Nat.reduceLeDiff, Nat.reduceLT, Nat.reduceEqDiff, Nat.reduceBEq, reduceIte, nx_w, nx_c, up_n, up_s, up_f, ne_eq, Nat.reduceEqDiff, Option.some.injEq, Prod.mk.injEq, exists_eq_left', reduceCtorEq, ar_57, ar_59, ob_43]
  have e18 : up h 43 22 0 43 18 = h 43 18 := up_f (by decide)
  have e6 : up h 43 22 0 43 6 = h 43 6 := up_f (by decide)
  have e22 : up h 43 22 0 43 22 = 0 := up_s
  have ee : ∀ a, a ≠ 43 → up h 43 22 0 a = h a := fun a ha => up_ne ha
  refine Wt.mono ?_ (l_Model_part (up h 43 22 0) (by rw [e18]; exact hm) (by rw [e18, ee 57 (by decide)]; exact hrc) (by rw [e6]; exact hn) (by rw [e6, ee 49 (by decide)]; exact hln) ((h 43 18).toNat + 1) 0 (up h 43 22 0) (by rw [e18]; omega) (by omega) (by rw [e18]; exact hm.1) ⟨fun _ _ _ _ _ => rfl, fun _ _ => rfl⟩ ?_ ?_ (fun _ _ => Or.inl rfl) ?_)
  · rintro v sh' h' ⟨rfl, hv⟩
    refine ⟨rfl, ?_⟩
    obtain ⟨rfl, ⟨q1, q2⟩, q3, q4⟩ := rtV_ex hv
    refine ⟨⟨fun a a1 a2 a3 a4 => by rw [q1 a a1 a2 a3 a4]; exact ee a a1, fun b hb => by rw [q2 b hb, up_f hb]⟩, by rw [e18, ee 57 (by decide)] at q3; exact q3, fun k hk => ?_⟩
    have := q4 k hk
    rw [e6, ee 57 (by decide), fndM_congr (ee 48 (by decide)) (ee 49 (by decide)) (ee 50 (by decide))] at this
    exact this
  · rw [e22]
    exact ⟨by omega, by omega, fun k hk => by omega, fun j hj => by omega, fun k hk => by omega⟩
  · rw [e22]; rfl
  · rw [e22]; intro k hk; omega
