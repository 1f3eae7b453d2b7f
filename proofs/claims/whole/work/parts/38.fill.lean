/-! the class's tables: fill, nearestName -/
def nmF (h : HP) (n : Nat) : Nat → Int := fun x => h 7 (12 * n + x)
def dE (h : HP) (k n : Nat) (i j : Nat) : Int := ed (h 4) (h 5) (tw h k) (nmF h n) i j
def dN (h : HP) (k n : Nat) : Int := dE h k n (h 23 k).toNat (h 8 n).toNat
def flP (T C : Nat) (h0 h : HP) (k n : Nat) (i j : Int) : Prop := (∀ a, a ≠ T → a ≠ C → h a = h0 a) ∧ h T 3 = h0 23 k ∧ h T 4 = h0 8 n ∧ (∀ b, b ≠ 3 → b ≠ 4 → h T b = h0 T b) ∧ ∀ i' j' : Nat, (i' : Int) ≤ h0 23 k → (j' : Int) ≤ h0 8 n → ((i' : Int) < i ∨ ((i' : Int) = i ∧ (j' : Int) < j)) → h C (13 * i' + j') = dE h0 k n i' j'
def qFill (T C : Nat) (h0 : HP) (k n : Nat) (r : Int) (h' : HP) : Prop := flP T C h0 h' k n (h0 23 k + 1) 0 ∧ r = dN h0 k n
def tyIn (h : HP) (k : Nat) : Prop := (0 ≤ h 22 k ∧ 0 < h 23 k ∧ h 22 k + h 23 k ≤ 92) ∧ ∀ x : Nat, (x : Int) < h 23 k → 0 ≤ tw h k x ∧ tw h k x ≤ 25
theorem ty_in {h : HP} (hL : CL0 h) {k : Nat} (hk : (k : Int) < h 19 5) : tyIn h k := by
  obtain ⟨l1, l2, l3, l4, l5, l6⟩ := hL
  obtain ⟨r1, r2, r3, r4⟩ := l4.2.2.1 k hk
  refine ⟨by omega, fun x hx => ?_⟩
  have e := l3 ((h 22 k).toNat + x) (by omega)
  have n := r4 ((h 22 k).toNat + x) (by omega) (by omega)
  unfold tw
  rw [e.2.2]
  unfold lOf at *
  split at n
  · rename_i z; rw [if_pos z]; omega
  · rename_i z; split at n
    · rename_i z2; rw [if_neg z, if_pos z2]; omega
    · exact absurd rfl n
def nmIn (h : HP) (n : Nat) : Prop := (n < 90 ∧ 1 ≤ h 8 n ∧ h 8 n ≤ 12) ∧ ∀ x : Nat, (x : Int) < h 8 n → 0 ≤ nmF h n x ∧ nmF h n x ≤ 25
theorem nm_in {h : HP} (hN : CN h) {n : Nat} (hn : (n : Int) < h 6 3) : nmIn h n := by
  obtain ⟨z1, z2, z3, z4, z5⟩ := hN.2.2.1 n hn
  have := hN.2.1
  exact ⟨by omega, fun x hx => z5 x hx⟩
set_option maxRecDepth 100000 in
set_option maxHeartbeats 4000000 in
theorem f2_Table_fill28 (h0 : HP) (k n : Nat) (hS : CS h0) (hk : tyIn h0 k) (hn : nmIn h0 n) (hk10 : k < 10) (i : Int) (hi : 0 ≤ i ∧ i ≤ h0 23 k) (P : Option AV → HP → Prop) (hX : ∀ h x7, flP 28 29 h0 h k n (i + 1) 0 → Wn Z4 mTable_fill SH0 40 [some (.inr (.inr 28)), some (.inl n), some (.inr (.inr 19)), some (.inl k), some (.inl (h0 22 k)), some (.inl (12 * (n : Int))), some (.inl (i + 1)), x7] [] h P) : ∀ (d : Nat) (j : Int) (h : HP), h0 8 n + 1 - j < d → 0 ≤ j → j ≤ h0 8 n + 1 → flP 28 29 h0 h k n i j → Wn Z4 mTable_fill SH0 52 [some (.inr (.inr 28)), some (.inl n), some (.inr (.inr 19)), some (.inl k), some (.inl (h0 22 k)), some (.inl (12 * (n : Int))), some (.inl i), some (.inl j)] [] h P := by
  obtain ⟨⟨k1, k2, k3⟩, k4⟩ := hk
  obtain ⟨⟨n1, n2, n3⟩, n4⟩ := hn
  intro d
  induction d with
  | zero => intro j h h1 h2 h3; omega
  | succ d ih =>
    intro j h h1 h2 h3 h4
    have h4' := h4
    obtain ⟨f1, f2, f3, f4, f5⟩ := h4'
    have g4 : h 4 = h0 4 := f1 4 (by decide) (by decide)
    have g5 : h 5 = h0 5 := f1 5 (by decide) (by decide)
    have g7 : h 7 = h0 7 := f1 7 (by decide) (by decide)
    have g21 : h 21 = h0 21 := f1 21 (by decide) (by decide)
    have hs := CS_okS hS
    obtain ⟨s0, s1, -, -, -⟩ := hs
    have nxt : ∀ x, j ≤ h0 8 n → x = dE h0 k n i.toNat j.toNat → Wn Z4 mTable_fill SH0 52 [some (.inr (.inr 28)), some (.inl n), some (.inr (.inr 19)), some (.inl k), some (.inl (h0 22 k)), some (.inl (12 * (n : Int))), some (.inl i), some (.inl (j + 1))] [] (up h 29 (i * 13 + j).toNat x) P := by
      intro x hj hx
      refine ih (j + 1) _ (by omega) (by omega) (by omega) ⟨fun a a1 a2 => by rw [up_ne a2]; exact f1 a a1 a2, by rw [up_n (by decide)]; exact f2, by rw [up_n (by decide)]; exact f3, fun b b1 b2 => by rw [up_n (by decide)]; exact f4 b b1 b2, fun i' j' q1 q2 q3 => ?_⟩
      rw [up_a]
      by_cases e : 13 * i' + j' = (i * 13 + j).toNat
      · have e1 : i' = i.toNat := by omega
        have e2 : j' = j.toNat := by omega
        rw [if_pos e, hx, e1, e2]
      · rw [if_neg e]
        exact f5 i' j' q1 q2 (by omega)
    refine go [52,40] 400 (k := ?_)
    simp (config := {maxSteps := 1000000}) only [↓pI_c, ↓pR_c, ↓pJ_c, ↓pV_c, ↓popN_0, ↓popN_s, ↓lI_0, ↓lR_0, ↓lJ_0, ↓lI_s, ↓lR_s, ↓lJ_s, ↓okSt_0, ↓okSt_I, ↓okSt_R, ↓okSt_N, ↓okSt_s, ↓rtI_s, ↓rtV_n, ↓brP_t, ↓brP_f, ↓sTable_fill_0, ↓sTable_fill_1, ↓sTable_fill_2, ↓rf_19_3, ↓sTable_fill_5, ↓sTable_fill_6, ↓sTable_fill_7, ↓rf_28_3, ↓rf_41_3, ↓sTable_fill_10, ↓sTable_fill_11, ↓sTable_fill_12, ↓rf_28_1, ↓rf_41_1, ↓sTable_fill_15, ↓rf_6_1, ↓sTable_fill_18, ↓sTable_fill_19, ↓sTable_fill_20, ↓rf_28_4, ↓rf_41_4, ↓sTable_fill_23, ↓sTable_fill_24, ↓rf_19_2, ↓sTable_fill_27, ↓sTable_fill_28, ↓sTable_fill_29, ↓sTable_fill_31, ↓sTable_fill_32, ↓sTable_fill_34, ↓sTable_fill_35, ↓sTable_fill_37, ↓sTable_fill_38, ↓sTable_fill_40, ↓sTable_fill_42, ↓sTable_fill_43, ↓sTable_fill_46, ↓sTable_fill_49, ↓sTable_fill_50, ↓sTable_fill_52, ↓sTable_fill_54, ↓sTable_fill_55, ↓sTable_fill_58, ↓sTable_fill_61, ↓sTable_fill_62, ↓rf_28_2, ↓rf_41_2, ↓sTable_fill_65, ↓sTable_fill_67, ↓sTable_fill_69, ↓sTable_fill_70, ↓sTable_fill_72, ↓sTable_fill_73, ↓sTable_fill_75, ↓sTable_fill_78, ↓sTable_fill_80, ↓sTable_fill_83, ↓sTable_fill_85, ↓sTable_fill_86, ↓rf_28_0, ↓rf_41_0, ↓sTable_fill_89, ↓rf_3_0, ↓sTable_fill_92, ↓sTable_fill_93, ↓sTable_fill_94, ↓sTable_fill_95, ↓sTable_fill_97, ↓sTable_fill_98, ↓sTable_fill_101, ↓sTable_fill_104, ↓sTable_fill_105, ↓sTable_fill_106, ↓sTable_fill_107, ↓sTable_fill_108, ↓sTable_fill_111, ↓sTable_fill_112, ↓sTable_fill_113, ↓rf_19_1, ↓sTable_fill_116, ↓sTable_fill_118, ↓sTable_fill_120, ↓sTable_fill_122, ↓sTable_fill_124, ↓sTable_fill_127, ↓sTable_fill_128, ↓sTable_fill_131, ↓sTable_fill_134, ↓sTable_fill_137, ↓sTable_fill_140, ↓sTable_fill_141, ↓sTable_fill_142, ↓sTable_fill_145, ↓sTable_fill_146, ↓sTable_fill_149, ↓sTable_fill_152, ↓ln_4, ↓ln_8, ↓ln_21, ↓ln_22, ↓ln_23, ↓ln_29, ↓ln_42, List.set_cons_zero, List.set_cons_succ, List.length_cons, List.length_nil, List.contains_cons, List.contains_nil, cat1, brP_d, true_and, and_true, not_false_eq_true, not_true_eq_false, if_true, if_false, Bool.or_false, Bool.false_or, Bool.or_true, Bool.true_or, Bool.false_eq_true, Bool.or_self, false_implies, true_implies, forall_const, and_self, implies_true, true_or, or_true, or_false, false_or, or_self, Classical.not_not, Int.reduceAdd, Int.reduceSub, Int.reduceMul, Int.reduceNeg, Int.reduceToNat, Int.reduceLT, Int.reduceLE, Int.reduceEq, Int.reduceNe, Int.reduceNatCast', Nat.reduceAdd, Nat.reduceSub, Nat.reduceLeDiff, Nat.reduceLT, Nat.reduceEqDiff, Nat.reduceBEq, reduceIte, nx_w, nx_c, up_n, up_s, up_f, ne_eq, Nat.reduceEqDiff, Option.some.injEq, Prod.mk.injEq, exists_eq_left', reduceCtorEq, ob_28, ob_41, f3, g4]
    rw [wr_id (x := i + 1) (by omega) (by omega), wr_id (x := j + 1) (by omega) (by omega)]
    refine ⟨fun h5 => ?_, fun h5 => ?_⟩
    · refine hX h _ ⟨f1, f2, f3, f4, fun i' j' q1 q2 q3 => f5 i' j' q1 q2 (by omega)⟩
    · have m0 := mul_in (i := i.toNat) s0
      have m1 := mul_in (i := j.toNat) s1
      rw [show ((i.toNat : Nat) : Int) = i by omega] at m0
      rw [show ((j.toNat : Nat) : Int) = j by omega] at m1
      rw [wr_id (x := i * 13) (by omega) (by omega), wr_id (x := i * 13 + j) (by omega) (by omega), wr_id (x := i * h0 4 0) (by omega) (by omega), wr_id (x := j * h0 4 1) (by omega) (by omega), wr_id (x := i * h0 4 0 + j * h0 4 1) (by omega) (by omega)]
      refine ⟨fun h6 => ⟨by omega, nxt _ (by omega) ?_⟩, fun h6 => ⟨fun h7 => ?_, fun h7 => ⟨by omega, nxt _ (by omega) ?_⟩⟩⟩
      · subst h6
        show _ = ed (h0 4) (h0 5) (tw h0 k) (nmF h0 n) 0 j.toNat
        rw [ed_0j, show ((j.toNat : Nat) : Int) = j by omega, Int.zero_mul, Int.zero_add]
      · refine use_p (t_Table_leastCost28 h (h0 22 k) (12 * (n : Int)) i j (tw h0 k) (nmF h0 n) (by unfold CS; rw [g4, g5]; exact hS) (by omega) (by omega) (by omega) (by omega) (fun x hx => ⟨by rw [g21]; rfl, k4 x (by omega)⟩) (fun x hx => ⟨by rw [g7, show (12 * (n : Int)).toNat = 12 * n by omega]; rfl, n4 x (by omega)⟩) (fun i' j' q1 q2 q3 => by rw [g4, g5]; exact f5 i' j' (by omega) (by omega) (by omega))) ?_
        exact ⟨by omega, nxt _ (by omega) (by rw [g4, g5]; rfl)⟩
      · obtain ⟨I, rfl⟩ : ∃ I : Nat, i = (I : Int) + 1 := ⟨(i - 1).toNat, by omega⟩
        rw [show ((I : Int) + 1).toNat = I + 1 by omega, h7]
        show _ = ed (h0 4) (h0 5) (tw h0 k) (nmF h0 n) (I + 1) 0
        rw [ed_i0, Int.zero_mul, Int.add_zero]
set_option maxRecDepth 100000 in
set_option maxHeartbeats 4000000 in
theorem f1_Table_fill28 (h0 : HP) (k n : Nat) (hS : CS h0) (hk : tyIn h0 k) (hn : nmIn h0 n) (hk10 : k < 10) : ∀ (d : Nat) (i : Int) (h : HP) (x7 : Option AV), h0 23 k + 1 - i < d → 0 ≤ i → i ≤ h0 23 k + 1 → flP 28 29 h0 h k n i 0 → Wn Z4 mTable_fill SH0 40 [some (.inr (.inr 28)), some (.inl n), some (.inr (.inr 19)), some (.inl k), some (.inl (h0 22 k)), some (.inl (12 * (n : Int))), some (.inl i), x7] [] h (rtI (qFill 28 29 h0 k n)) := by
  intro d
  induction d with
  | zero => intro i h x7 h1 h2 h3; omega
  | succ d ih =>
    intro i h x7 h1 h2 h3 h4
    have h4' := h4
    obtain ⟨f1, f2, f3, f4, f5⟩ := h4'
    have hk' := hk.1
    have hn' := hn.1
    refine go [52] 400 (k := ?_)
    simp (config := {maxSteps := 1000000}) only [↓pI_c, ↓pR_c, ↓pJ_c, ↓pV_c, ↓popN_0, ↓popN_s, ↓lI_0, ↓lR_0, ↓lJ_0, ↓lI_s, ↓lR_s, ↓lJ_s, ↓okSt_0, ↓okSt_I, ↓okSt_R, ↓okSt_N, ↓okSt_s, ↓rtI_s, ↓rtV_n, ↓brP_t, ↓brP_f, ↓sTable_fill_0, ↓sTable_fill_1, ↓sTable_fill_2, ↓rf_19_3, ↓sTable_fill_5, ↓sTable_fill_6, ↓sTable_fill_7, ↓rf_28_3, ↓rf_41_3, ↓sTable_fill_10, ↓sTable_fill_11, ↓sTable_fill_12, ↓rf_28_1, ↓rf_41_1, ↓sTable_fill_15, ↓rf_6_1, ↓sTable_fill_18, ↓sTable_fill_19, ↓sTable_fill_20, ↓rf_28_4, ↓rf_41_4, ↓sTable_fill_23, ↓sTable_fill_24, ↓rf_19_2, ↓sTable_fill_27, ↓sTable_fill_28, ↓sTable_fill_29, ↓sTable_fill_31, ↓sTable_fill_32, ↓sTable_fill_34, ↓sTable_fill_35, ↓sTable_fill_37, ↓sTable_fill_38, ↓sTable_fill_40, ↓sTable_fill_42, ↓sTable_fill_43, ↓sTable_fill_46, ↓sTable_fill_49, ↓sTable_fill_50, ↓sTable_fill_52, ↓sTable_fill_54, ↓sTable_fill_55, ↓sTable_fill_58, ↓sTable_fill_61, ↓sTable_fill_62, ↓rf_28_2, ↓rf_41_2, ↓sTable_fill_65, ↓sTable_fill_67, ↓sTable_fill_69, ↓sTable_fill_70, ↓sTable_fill_72, ↓sTable_fill_73, ↓sTable_fill_75, ↓sTable_fill_78, ↓sTable_fill_80, ↓sTable_fill_83, ↓sTable_fill_85, ↓sTable_fill_86, ↓rf_28_0, ↓rf_41_0, ↓sTable_fill_89, ↓rf_3_0, ↓sTable_fill_92, ↓sTable_fill_93, ↓sTable_fill_94, ↓sTable_fill_95, ↓sTable_fill_97, ↓sTable_fill_98, ↓sTable_fill_101, ↓sTable_fill_104, ↓sTable_fill_105, ↓sTable_fill_106, ↓sTable_fill_107, ↓sTable_fill_108, ↓sTable_fill_111, ↓sTable_fill_112, ↓sTable_fill_113, ↓rf_19_1, ↓sTable_fill_116, ↓sTable_fill_118, ↓sTable_fill_120, ↓sTable_fill_122, ↓sTable_fill_124, ↓sTable_fill_127, ↓sTable_fill_128, ↓sTable_fill_131, ↓sTable_fill_134, ↓sTable_fill_137, ↓sTable_fill_140, ↓sTable_fill_141, ↓sTable_fill_142, ↓sTable_fill_145, ↓sTable_fill_146, ↓sTable_fill_149, ↓sTable_fill_152, ↓ln_4, ↓ln_8, ↓ln_21, ↓ln_22, ↓ln_23, ↓ln_29, ↓ln_42, List.set_cons_zero, List.set_cons_succ, List.length_cons, List.length_nil, List.contains_cons, List.contains_nil, cat1, brP_d, true_and, and_true, not_false_eq_true, not_true_eq_false, if_true, if_false, Bool.or_false, Bool.false_or, Bool.or_true, Bool.true_or, Bool.false_eq_true, Bool.or_self, false_implies, true_implies, forall_const, and_self, implies_true, true_or, or_true, or_false, false_or, or_self, Classical.not_not, Int.reduceAdd, Int.reduceSub, Int.reduceMul, Int.reduceNeg, Int.reduceToNat, Int.reduceLT, Int.reduceLE, Int.reduceEq, Int.reduceNe, Int.reduceNatCast', Nat.reduceAdd, Nat.reduceSub, Nat.reduceLeDiff, Nat.reduceLT, Nat.reduceEqDiff, Nat.reduceBEq, reduceIte, nx_w, nx_c, up_n, up_s, up_f, ne_eq, Nat.reduceEqDiff, Option.some.injEq, Prod.mk.injEq, exists_eq_left', reduceCtorEq, ob_28, ob_41, f2]
    refine ⟨fun h5 => ?_, fun h5 => ?_⟩
    · rw [f3]
      refine use_p (t_Table_cost28 h (h0 23 k) (h0 8 n) (by omega) (by omega)) ?_
      rw [show i = h0 23 k + 1 by omega] at h4
      exact ⟨h4, f5 _ _ (by omega) (by omega) (by omega)⟩
    · refine f2_Table_fill28 h0 k n hS hk hn hk10 i (by omega) _ (fun h x7 hf => ih (i + 1) h x7 (by omega) (by omega) (by omega) hf) ((h0 8 n).toNat + 2) 0 h (by omega) (by omega) (by omega) h4
set_option maxRecDepth 100000 in
set_option maxHeartbeats 4000000 in
theorem t_Table_fill28 (h : HP) (k n : Nat) (hS : CS h) (hk : tyIn h k) (hn : nmIn h n) (hk10 : k < 10) : trI mTable_fill [.inr (.inr 28), .inl n, .inr (.inr 19), .inl k] SH0 h (qFill 28 29 h k n) := by
  have hk' := hk.1
  have hn' := hn.1
  refine startI [some (.inr (.inr 28)), some (.inl n), some (.inr (.inr 19)), some (.inl k), none, none, none, none] mTable_fill_c (go [40] 400 (k := ?_))
  simp (config := {maxSteps := 1000000}) only [↓pI_c, ↓pR_c, ↓pJ_c, ↓pV_c, ↓popN_0, ↓popN_s, ↓lI_0, ↓lR_0, ↓lJ_0, ↓lI_s, ↓lR_s, ↓lJ_s, ↓okSt_0, ↓okSt_I, ↓okSt_R, ↓okSt_N, ↓okSt_s, ↓rtI_s, ↓rtV_n, ↓brP_t, ↓brP_f, ↓sTable_fill_0, ↓sTable_fill_1, ↓sTable_fill_2, ↓rf_19_3, ↓sTable_fill_5, ↓sTable_fill_6, ↓sTable_fill_7, ↓rf_28_3, ↓rf_41_3, ↓sTable_fill_10, ↓sTable_fill_11, ↓sTable_fill_12, ↓rf_28_1, ↓rf_41_1, ↓sTable_fill_15, ↓rf_6_1, ↓sTable_fill_18, ↓sTable_fill_19, ↓sTable_fill_20, ↓rf_28_4, ↓rf_41_4, ↓sTable_fill_23, ↓sTable_fill_24, ↓rf_19_2, ↓sTable_fill_27, ↓sTable_fill_28, ↓sTable_fill_29, ↓sTable_fill_31, ↓sTable_fill_32, ↓sTable_fill_34, ↓sTable_fill_35, ↓sTable_fill_37, ↓sTable_fill_38, ↓sTable_fill_40, ↓sTable_fill_42, ↓sTable_fill_43, ↓sTable_fill_46, ↓sTable_fill_49, ↓sTable_fill_50, ↓sTable_fill_52, ↓sTable_fill_54, ↓sTable_fill_55, ↓sTable_fill_58, ↓sTable_fill_61, ↓sTable_fill_62, ↓rf_28_2, ↓rf_41_2, ↓sTable_fill_65, ↓sTable_fill_67, ↓sTable_fill_69, ↓sTable_fill_70, ↓sTable_fill_72, ↓sTable_fill_73, ↓sTable_fill_75, ↓sTable_fill_78, ↓sTable_fill_80, ↓sTable_fill_83, ↓sTable_fill_85, ↓sTable_fill_86, ↓rf_28_0, ↓rf_41_0, ↓sTable_fill_89, ↓rf_3_0, ↓sTable_fill_92, ↓sTable_fill_93, ↓sTable_fill_94, ↓sTable_fill_95, ↓sTable_fill_97, ↓sTable_fill_98, ↓sTable_fill_101, ↓sTable_fill_104, ↓sTable_fill_105, ↓sTable_fill_106, ↓sTable_fill_107, ↓sTable_fill_108, ↓sTable_fill_111, ↓sTable_fill_112, ↓sTable_fill_113, ↓rf_19_1, ↓sTable_fill_116, ↓sTable_fill_118, ↓sTable_fill_120, ↓sTable_fill_122, ↓sTable_fill_124, ↓sTable_fill_127, ↓sTable_fill_128, ↓sTable_fill_131, ↓sTable_fill_134, ↓sTable_fill_137, ↓sTable_fill_140, ↓sTable_fill_141, ↓sTable_fill_142, ↓sTable_fill_145, ↓sTable_fill_146, ↓sTable_fill_149, ↓sTable_fill_152, ↓ln_4, ↓ln_8, ↓ln_21, ↓ln_22, ↓ln_23, ↓ln_29, ↓ln_42, List.set_cons_zero, List.set_cons_succ, List.length_cons, List.length_nil, List.contains_cons, List.contains_nil, cat1, brP_d, true_and, and_true, not_false_eq_true, not_true_eq_false, if_true, if_false, Bool.or_false, Bool.false_or, Bool.or_true, Bool.true_or, Bool.false_eq_true, Bool.or_self, false_implies, true_implies, forall_const, and_self, implies_true, true_or, or_true, or_false, false_or, or_self, Classical.not_not, Int.reduceAdd, Int.reduceSub, Int.reduceMul, Int.reduceNeg, Int.reduceToNat, Int.reduceLT, Int.reduceLE, Int.reduceEq, Int.reduceNe, Int.reduceNatCast', Nat.reduceAdd, Nat.reduceSub, Nat.reduceLeDiff, Nat.reduceLT, Nat.reduceEqDiff, Nat.reduceBEq, reduceIte, nx_w, nx_c, up_n, up_s, up_f, ne_eq, Nat.reduceEqDiff, Option.some.injEq, Prod.mk.injEq, exists_eq_left', reduceCtorEq, ob_28, ob_41]
  rw [wr_id (x := (n : Int) * 12) (by omega) (by omega), show (n : Int) * 12 = 12 * n by omega, show ((k : Int)).toNat = k by omega, show ((n : Int)).toNat = n by omega]
  refine ⟨by omega, by omega, by omega, ?_⟩
  refine f1_Table_fill28 h k n hS hk hn hk10 ((h 23 k).toNat + 2) 0 _ _ (by omega) (by omega) (by omega) ⟨fun a a1 a2 => by rw [up_ne a1, up_ne a1], by rw [up_f (by decide), up_s], by rw [up_s], fun b b1 b2 => by rw [up_f b2, up_f b1], fun i' j' q1 q2 q3 => by omega⟩
set_option maxRecDepth 100000 in
set_option maxHeartbeats 4000000 in
theorem f2_Table_fill41 (h0 : HP) (k n : Nat) (hS : CS h0) (hk : tyIn h0 k) (hn : nmIn h0 n) (hk10 : k < 10) (i : Int) (hi : 0 ≤ i ∧ i ≤ h0 23 k) (P : Option AV → HP → Prop) (hX : ∀ h x7, flP 41 42 h0 h k n (i + 1) 0 → Wn Z4 mTable_fill SH0 40 [some (.inr (.inr 41)), some (.inl n), some (.inr (.inr 19)), some (.inl k), some (.inl (h0 22 k)), some (.inl (12 * (n : Int))), some (.inl (i + 1)), x7] [] h P) : ∀ (d : Nat) (j : Int) (h : HP), h0 8 n + 1 - j < d → 0 ≤ j → j ≤ h0 8 n + 1 → flP 41 42 h0 h k n i j → Wn Z4 mTable_fill SH0 52 [some (.inr (.inr 41)), some (.inl n), some (.inr (.inr 19)), some (.inl k), some (.inl (h0 22 k)), some (.inl (12 * (n : Int))), some (.inl i), some (.inl j)] [] h P := by
  obtain ⟨⟨k1, k2, k3⟩, k4⟩ := hk
  obtain ⟨⟨n1, n2, n3⟩, n4⟩ := hn
  intro d
  induction d with
  | zero => intro j h h1 h2 h3; omega
  | succ d ih =>
    intro j h h1 h2 h3 h4
    have h4' := h4
    obtain ⟨f1, f2, f3, f4, f5⟩ := h4'
    have g4 : h 4 = h0 4 := f1 4 (by decide) (by decide)
    have g5 : h 5 = h0 5 := f1 5 (by decide) (by decide)
    have g7 : h 7 = h0 7 := f1 7 (by decide) (by decide)
    have g21 : h 21 = h0 21 := f1 21 (by decide) (by decide)
    have hs := CS_okS hS
    obtain ⟨s0, s1, -, -, -⟩ := hs
    have nxt : ∀ x, j ≤ h0 8 n → x = dE h0 k n i.toNat j.toNat → Wn Z4 mTable_fill SH0 52 [some (.inr (.inr 41)), some (.inl n), some (.inr (.inr 19)), some (.inl k), some (.inl (h0 22 k)), some (.inl (12 * (n : Int))), some (.inl i), some (.inl (j + 1))] [] (up h 42 (i * 13 + j).toNat x) P := by
      intro x hj hx
      refine ih (j + 1) _ (by omega) (by omega) (by omega) ⟨fun a a1 a2 => by rw [up_ne a2]; exact f1 a a1 a2, by rw [up_n (by decide)]; exact f2, by rw [up_n (by decide)]; exact f3, fun b b1 b2 => by rw [up_n (by decide)]; exact f4 b b1 b2, fun i' j' q1 q2 q3 => ?_⟩
      rw [up_a]
      by_cases e : 13 * i' + j' = (i * 13 + j).toNat
      · have e1 : i' = i.toNat := by omega
        have e2 : j' = j.toNat := by omega
        rw [if_pos e, hx, e1, e2]
      · rw [if_neg e]
        exact f5 i' j' q1 q2 (by omega)
    refine go [52,40] 400 (k := ?_)
    simp (config := {maxSteps := 1000000}) only [↓pI_c, ↓pR_c, ↓pJ_c, ↓pV_c, ↓popN_0, ↓popN_s, ↓lI_0, ↓lR_0, ↓lJ_0, ↓lI_s, ↓lR_s, ↓lJ_s, ↓okSt_0, ↓okSt_I, ↓okSt_R, ↓okSt_N, ↓okSt_s, ↓rtI_s, ↓rtV_n, ↓brP_t, ↓brP_f, ↓sTable_fill_0, ↓sTable_fill_1, ↓sTable_fill_2, ↓rf_19_3, ↓sTable_fill_5, ↓sTable_fill_6, ↓sTable_fill_7, ↓rf_28_3, ↓rf_41_3, ↓sTable_fill_10, ↓sTable_fill_11, ↓sTable_fill_12, ↓rf_28_1, ↓rf_41_1, ↓sTable_fill_15, ↓rf_6_1, ↓sTable_fill_18, ↓sTable_fill_19, ↓sTable_fill_20, ↓rf_28_4, ↓rf_41_4, ↓sTable_fill_23, ↓sTable_fill_24, ↓rf_19_2, ↓sTable_fill_27, ↓sTable_fill_28, ↓sTable_fill_29, ↓sTable_fill_31, ↓sTable_fill_32, ↓sTable_fill_34, ↓sTable_fill_35, ↓sTable_fill_37, ↓sTable_fill_38, ↓sTable_fill_40, ↓sTable_fill_42, ↓sTable_fill_43, ↓sTable_fill_46, ↓sTable_fill_49, ↓sTable_fill_50, ↓sTable_fill_52, ↓sTable_fill_54, ↓sTable_fill_55, ↓sTable_fill_58, ↓sTable_fill_61, ↓sTable_fill_62, ↓rf_28_2, ↓rf_41_2, ↓sTable_fill_65, ↓sTable_fill_67, ↓sTable_fill_69, ↓sTable_fill_70, ↓sTable_fill_72, ↓sTable_fill_73, ↓sTable_fill_75, ↓sTable_fill_78, ↓sTable_fill_80, ↓sTable_fill_83, ↓sTable_fill_85, ↓sTable_fill_86, ↓rf_28_0, ↓rf_41_0, ↓sTable_fill_89, ↓rf_3_0, ↓sTable_fill_92, ↓sTable_fill_93, ↓sTable_fill_94, ↓sTable_fill_95, ↓sTable_fill_97, ↓sTable_fill_98, ↓sTable_fill_101, ↓sTable_fill_104, ↓sTable_fill_105, ↓sTable_fill_106, ↓sTable_fill_107, ↓sTable_fill_108, ↓sTable_fill_111, ↓sTable_fill_112, ↓sTable_fill_113, ↓rf_19_1, ↓sTable_fill_116, ↓sTable_fill_118, ↓sTable_fill_120, ↓sTable_fill_122, ↓sTable_fill_124, ↓sTable_fill_127, ↓sTable_fill_128, ↓sTable_fill_131, ↓sTable_fill_134, ↓sTable_fill_137, ↓sTable_fill_140, ↓sTable_fill_141, ↓sTable_fill_142, ↓sTable_fill_145, ↓sTable_fill_146, ↓sTable_fill_149, ↓sTable_fill_152, ↓ln_4, ↓ln_8, ↓ln_21, ↓ln_22, ↓ln_23, ↓ln_29, ↓ln_42, List.set_cons_zero, List.set_cons_succ, List.length_cons, List.length_nil, List.contains_cons, List.contains_nil, cat1, brP_d, true_and, and_true, not_false_eq_true, not_true_eq_false, if_true, if_false, Bool.or_false, Bool.false_or, Bool.or_true, Bool.true_or, Bool.false_eq_true, Bool.or_self, false_implies, true_implies, forall_const, and_self, implies_true, true_or, or_true, or_false, false_or, or_self, Classical.not_not, Int.reduceAdd, Int.reduceSub, Int.reduceMul, Int.reduceNeg, Int.reduceToNat, Int.reduceLT, Int.reduceLE, Int.reduceEq, Int.reduceNe, Int.reduceNatCast', Nat.reduceAdd, Nat.reduceSub, Nat.reduceLeDiff, Nat.reduceLT, Nat.reduceEqDiff, Nat.reduceBEq, reduceIte, nx_w, nx_c, up_n, up_s, up_f, ne_eq, Nat.reduceEqDiff, Option.some.injEq, Prod.mk.injEq, exists_eq_left', reduceCtorEq, ob_28, ob_41, f3, g4]
    rw [wr_id (x := i + 1) (by omega) (by omega), wr_id (x := j + 1) (by omega) (by omega)]
    refine ⟨fun h5 => ?_, fun h5 => ?_⟩
    · refine hX h _ ⟨f1, f2, f3, f4, fun i' j' q1 q2 q3 => f5 i' j' q1 q2 (by omega)⟩
    · have m0 := mul_in (i := i.toNat) s0
      have m1 := mul_in (i := j.toNat) s1
      rw [show ((i.toNat : Nat) : Int) = i by omega] at m0
      rw [show ((j.toNat : Nat) : Int) = j by omega] at m1
      rw [wr_id (x := i * 13) (by omega) (by omega), wr_id (x := i * 13 + j) (by omega) (by omega), wr_id (x := i * h0 4 0) (by omega) (by omega), wr_id (x := j * h0 4 1) (by omega) (by omega), wr_id (x := i * h0 4 0 + j * h0 4 1) (by omega) (by omega)]
      refine ⟨fun h6 => ⟨by omega, nxt _ (by omega) ?_⟩, fun h6 => ⟨fun h7 => ?_, fun h7 => ⟨by omega, nxt _ (by omega) ?_⟩⟩⟩
      · subst h6
        show _ = ed (h0 4) (h0 5) (tw h0 k) (nmF h0 n) 0 j.toNat
        rw [ed_0j, show ((j.toNat : Nat) : Int) = j by omega, Int.zero_mul, Int.zero_add]
      · refine use_p (t_Table_leastCost41 h (h0 22 k) (12 * (n : Int)) i j (tw h0 k) (nmF h0 n) (by unfold CS; rw [g4, g5]; exact hS) (by omega) (by omega) (by omega) (by omega) (fun x hx => ⟨by rw [g21]; rfl, k4 x (by omega)⟩) (fun x hx => ⟨by rw [g7, show (12 * (n : Int)).toNat = 12 * n by omega]; rfl, n4 x (by omega)⟩) (fun i' j' q1 q2 q3 => by rw [g4, g5]; exact f5 i' j' (by omega) (by omega) (by omega))) ?_
        exact ⟨by omega, nxt _ (by omega) (by rw [g4, g5]; rfl)⟩
      · obtain ⟨I, rfl⟩ : ∃ I : Nat, i = (I : Int) + 1 := ⟨(i - 1).toNat, by omega⟩
        rw [show ((I : Int) + 1).toNat = I + 1 by omega, h7]
        show _ = ed (h0 4) (h0 5) (tw h0 k) (nmF h0 n) (I + 1) 0
        rw [ed_i0, Int.zero_mul, Int.add_zero]
set_option maxRecDepth 100000 in
set_option maxHeartbeats 4000000 in
theorem f1_Table_fill41 (h0 : HP) (k n : Nat) (hS : CS h0) (hk : tyIn h0 k) (hn : nmIn h0 n) (hk10 : k < 10) : ∀ (d : Nat) (i : Int) (h : HP) (x7 : Option AV), h0 23 k + 1 - i < d → 0 ≤ i → i ≤ h0 23 k + 1 → flP 41 42 h0 h k n i 0 → Wn Z4 mTable_fill SH0 40 [some (.inr (.inr 41)), some (.inl n), some (.inr (.inr 19)), some (.inl k), some (.inl (h0 22 k)), some (.inl (12 * (n : Int))), some (.inl i), x7] [] h (rtI (qFill 41 42 h0 k n)) := by
  intro d
  induction d with
  | zero => intro i h x7 h1 h2 h3; omega
  | succ d ih =>
    intro i h x7 h1 h2 h3 h4
    have h4' := h4
    obtain ⟨f1, f2, f3, f4, f5⟩ := h4'
    have hk' := hk.1
    have hn' := hn.1
    refine go [52] 400 (k := ?_)
    simp (config := {maxSteps := 1000000}) only [↓pI_c, ↓pR_c, ↓pJ_c, ↓pV_c, ↓popN_0, ↓popN_s, ↓lI_0, ↓lR_0, ↓lJ_0, ↓lI_s, ↓lR_s, ↓lJ_s, ↓okSt_0, ↓okSt_I, ↓okSt_R, ↓okSt_N, ↓okSt_s, ↓rtI_s, ↓rtV_n, ↓brP_t, ↓brP_f, ↓sTable_fill_0, ↓sTable_fill_1, ↓sTable_fill_2, ↓rf_19_3, ↓sTable_fill_5, ↓sTable_fill_6, ↓sTable_fill_7, ↓rf_28_3, ↓rf_41_3, ↓sTable_fill_10, ↓sTable_fill_11, ↓sTable_fill_12, ↓rf_28_1, ↓rf_41_1, ↓sTable_fill_15, ↓rf_6_1, ↓sTable_fill_18, ↓sTable_fill_19, ↓sTable_fill_20, ↓rf_28_4, ↓rf_41_4, ↓sTable_fill_23, ↓sTable_fill_24, ↓rf_19_2, ↓sTable_fill_27, ↓sTable_fill_28, ↓sTable_fill_29, ↓sTable_fill_31, ↓sTable_fill_32, ↓sTable_fill_34, ↓sTable_fill_35, ↓sTable_fill_37, ↓sTable_fill_38, ↓sTable_fill_40, ↓sTable_fill_42, ↓sTable_fill_43, ↓sTable_fill_46, ↓sTable_fill_49, ↓sTable_fill_50, ↓sTable_fill_52, ↓sTable_fill_54, ↓sTable_fill_55, ↓sTable_fill_58, ↓sTable_fill_61, ↓sTable_fill_62, ↓rf_28_2, ↓rf_41_2, ↓sTable_fill_65, ↓sTable_fill_67, ↓sTable_fill_69, ↓sTable_fill_70, ↓sTable_fill_72, ↓sTable_fill_73, ↓sTable_fill_75, ↓sTable_fill_78, ↓sTable_fill_80, ↓sTable_fill_83, ↓sTable_fill_85, ↓sTable_fill_86, ↓rf_28_0, ↓rf_41_0, ↓sTable_fill_89, ↓rf_3_0, ↓sTable_fill_92, ↓sTable_fill_93, ↓sTable_fill_94, ↓sTable_fill_95, ↓sTable_fill_97, ↓sTable_fill_98, ↓sTable_fill_101, ↓sTable_fill_104, ↓sTable_fill_105, ↓sTable_fill_106, ↓sTable_fill_107, ↓sTable_fill_108, ↓sTable_fill_111, ↓sTable_fill_112, ↓sTable_fill_113, ↓rf_19_1, ↓sTable_fill_116, ↓sTable_fill_118, ↓sTable_fill_120, ↓sTable_fill_122, ↓sTable_fill_124, ↓sTable_fill_127, ↓sTable_fill_128, ↓sTable_fill_131, ↓sTable_fill_134, ↓sTable_fill_137, ↓sTable_fill_140, ↓sTable_fill_141, ↓sTable_fill_142, ↓sTable_fill_145, ↓sTable_fill_146, ↓sTable_fill_149, ↓sTable_fill_152, ↓ln_4, ↓ln_8, ↓ln_21, ↓ln_22, ↓ln_23, ↓ln_29, ↓ln_42, List.set_cons_zero, List.set_cons_succ, List.length_cons, List.length_nil, List.contains_cons, List.contains_nil, cat1, brP_d, true_and, and_true, not_false_eq_true, not_true_eq_false, if_true, if_false, Bool.or_false, Bool.false_or, Bool.or_true, Bool.true_or, Bool.false_eq_true, Bool.or_self, false_implies, true_implies, forall_const, and_self, implies_true, true_or, or_true, or_false, false_or, or_self, Classical.not_not, Int.reduceAdd, Int.reduceSub, Int.reduceMul, Int.reduceNeg, Int.reduceToNat, Int.reduceLT, Int.reduceLE, Int.reduceEq, Int.reduceNe, Int.reduceNatCast', Nat.reduceAdd, Nat.reduceSub, Nat.reduceLeDiff, Nat.reduceLT, Nat.reduceEqDiff, Nat.reduceBEq, reduceIte, nx_w, nx_c, up_n, up_s, up_f, ne_eq, Nat.reduceEqDiff, Option.some.injEq, Prod.mk.injEq, exists_eq_left', reduceCtorEq, ob_28, ob_41, f2]
    refine ⟨fun h5 => ?_, fun h5 => ?_⟩
    · rw [f3]
      refine use_p (t_Table_cost41 h (h0 23 k) (h0 8 n) (by omega) (by omega)) ?_
      rw [show i = h0 23 k + 1 by omega] at h4
      exact ⟨h4, f5 _ _ (by omega) (by omega) (by omega)⟩
    · refine f2_Table_fill41 h0 k n hS hk hn hk10 i (by omega) _ (fun h x7 hf => ih (i + 1) h x7 (by omega) (by omega) (by omega) hf) ((h0 8 n).toNat + 2) 0 h (by omega) (by omega) (by omega) h4
set_option maxRecDepth 100000 in
set_option maxHeartbeats 4000000 in
theorem t_Table_fill41 (h : HP) (k n : Nat) (hS : CS h) (hk : tyIn h k) (hn : nmIn h n) (hk10 : k < 10) : trI mTable_fill [.inr (.inr 41), .inl n, .inr (.inr 19), .inl k] SH0 h (qFill 41 42 h k n) := by
  have hk' := hk.1
  have hn' := hn.1
  refine startI [some (.inr (.inr 41)), some (.inl n), some (.inr (.inr 19)), some (.inl k), none, none, none, none] mTable_fill_c (go [40] 400 (k := ?_))
  simp (config := {maxSteps := 1000000}) only [↓pI_c, ↓pR_c, ↓pJ_c, ↓pV_c, ↓popN_0, ↓popN_s, ↓lI_0, ↓lR_0, ↓lJ_0, ↓lI_s, ↓lR_s, ↓lJ_s, ↓okSt_0, ↓okSt_I, ↓okSt_R, ↓okSt_N, ↓okSt_s, ↓rtI_s, ↓rtV_n, ↓brP_t, ↓brP_f, ↓sTable_fill_0, ↓sTable_fill_1, ↓sTable_fill_2, ↓rf_19_3, ↓sTable_fill_5, ↓sTable_fill_6, ↓sTable_fill_7, ↓rf_28_3, ↓rf_41_3, ↓sTable_fill_10, ↓sTable_fill_11, ↓sTable_fill_12, ↓rf_28_1, ↓rf_41_1, ↓sTable_fill_15, ↓rf_6_1, ↓sTable_fill_18, ↓sTable_fill_19, ↓sTable_fill_20, ↓rf_28_4, ↓rf_41_4, ↓sTable_fill_23, ↓sTable_fill_24, ↓rf_19_2, ↓sTable_fill_27, ↓sTable_fill_28, ↓sTable_fill_29, ↓sTable_fill_31, ↓sTable_fill_32, ↓sTable_fill_34, ↓sTable_fill_35, ↓sTable_fill_37, ↓sTable_fill_38, ↓sTable_fill_40, ↓sTable_fill_42, ↓sTable_fill_43, ↓sTable_fill_46, ↓sTable_fill_49, ↓sTable_fill_50, ↓sTable_fill_52, ↓sTable_fill_54, ↓sTable_fill_55, ↓sTable_fill_58, ↓sTable_fill_61, ↓sTable_fill_62, ↓rf_28_2, ↓rf_41_2, ↓sTable_fill_65, ↓sTable_fill_67, ↓sTable_fill_69, ↓sTable_fill_70, ↓sTable_fill_72, ↓sTable_fill_73, ↓sTable_fill_75, ↓sTable_fill_78, ↓sTable_fill_80, ↓sTable_fill_83, ↓sTable_fill_85, ↓sTable_fill_86, ↓rf_28_0, ↓rf_41_0, ↓sTable_fill_89, ↓rf_3_0, ↓sTable_fill_92, ↓sTable_fill_93, ↓sTable_fill_94, ↓sTable_fill_95, ↓sTable_fill_97, ↓sTable_fill_98, ↓sTable_fill_101, ↓sTable_fill_104, ↓sTable_fill_105, ↓sTable_fill_106, ↓sTable_fill_107, ↓sTable_fill_108, ↓sTable_fill_111, ↓sTable_fill_112, ↓sTable_fill_113, ↓rf_19_1, ↓sTable_fill_116, ↓sTable_fill_118, ↓sTable_fill_120, ↓sTable_fill_122, ↓sTable_fill_124, ↓sTable_fill_127, ↓sTable_fill_128, ↓sTable_fill_131, ↓sTable_fill_134, ↓sTable_fill_137, ↓sTable_fill_140, ↓sTable_fill_141, ↓sTable_fill_142, ↓sTable_fill_145, ↓sTable_fill_146, ↓sTable_fill_149, ↓sTable_fill_152, ↓ln_4, ↓ln_8, ↓ln_21, ↓ln_22, ↓ln_23, ↓ln_29, ↓ln_42, List.set_cons_zero, List.set_cons_succ, List.length_cons, List.length_nil, List.contains_cons, List.contains_nil, cat1, brP_d, true_and, and_true, not_false_eq_true, not_true_eq_false, if_true, if_false, Bool.or_false, Bool.false_or, Bool.or_true, Bool.true_or, Bool.false_eq_true, Bool.or_self, false_implies, true_implies, forall_const, and_self, implies_true, true_or, or_true, or_false, false_or, or_self, Classical.not_not, Int.reduceAdd, Int.reduceSub, Int.reduceMul, Int.reduceNeg, Int.reduceToNat, Int.reduceLT, Int.reduceLE, Int.reduceEq, Int.reduceNe, Int.reduceNatCast', Nat.reduceAdd, Nat.reduceSub, Nat.reduceLeDiff, Nat.reduceLT, Nat.reduceEqDiff, Nat.reduceBEq, reduceIte, nx_w, nx_c, up_n, up_s, up_f, ne_eq, Nat.reduceEqDiff, Option.some.injEq, Prod.mk.injEq, exists_eq_left', reduceCtorEq, ob_28, ob_41]
  rw [wr_id (x := (n : Int) * 12) (by omega) (by omega), show (n : Int) * 12 = 12 * n by omega, show ((k : Int)).toNat = k by omega, show ((n : Int)).toNat = n by omega]
  refine ⟨by omega, by omega, by omega, ?_⟩
  refine f1_Table_fill41 h k n hS hk hn hk10 ((h 23 k).toNat + 2) 0 _ _ (by omega) (by omega) (by omega) ⟨fun a a1 a2 => by rw [up_ne a1, up_ne a1], by rw [up_f (by decide), up_s], by rw [up_s], fun b b1 b2 => by rw [up_f b2, up_f b1], fun i' j' q1 q2 q3 => by omega⟩
def tbF (T C : Nat) (h0 h : HP) : Prop := (∀ a, a ≠ T → a ≠ C → h a = h0 a) ∧ ∀ b, b ≠ 3 → b ≠ 4 → b ≠ 5 → h T b = h0 T b
def nnP (h : HP) (w : Int) (k : Nat) (n x d : Int) : Prop := (x = -1 ∧ ∀ i : Nat, (i : Int) < n → ¬ h 9 i = w) ∨ ∃ q : Nat, (q : Int) < n ∧ x = q ∧ h 9 q = w ∧ d = dN h k q ∧ (∀ i : Nat, (i : Int) < n → h 9 i = w → dN h k q ≤ dN h k i) ∧ ∀ i : Nat, i < q → h 9 i = w → dN h k q < dN h k i
theorem nnP_uni {h : HP} {w : Int} {k : Nat} {n x d x' d' : Int} (h1 : nnP h w k n x d) (h2 : nnP h w k n x' d') : x = x' ∧ (x = -1 ∨ d = d') := by
  rcases h1 with ⟨rfl, a⟩ | ⟨q, a1, rfl, a2, a3, a4, a5⟩
  · rcases h2 with ⟨rfl, b⟩ | ⟨q', b1, rfl, b2, b3, b4, b5⟩
    · exact ⟨rfl, Or.inl rfl⟩
    · exact absurd b2 (a q' b1)
  · rcases h2 with ⟨rfl, b⟩ | ⟨q', b1, rfl, b2, b3, b4, b5⟩
    · exact absurd a2 (b q a1)
    · rcases Nat.lt_trichotomy q q' with z | z | z
      · have := b5 q z a2
        have := a4 q' b1 b2
        omega
      · subst z
        exact ⟨rfl, Or.inr (by rw [a3, b3])⟩
      · have := a5 q' z b2
        have := b4 q a1 a2
        omega
theorem nnP_s {h : HP} {w : Int} {k : Nat} {n x d : Int} (h0 : 0 ≤ n) (hp : nnP h w k n x d) : (¬ h 9 n.toNat = w → nnP h w k (n + 1) x d) ∧ (h 9 n.toNat = w → (x = -1 ∨ dN h k n.toNat < d) → nnP h w k (n + 1) n (dN h k n.toNat)) ∧ (h 9 n.toNat = w → ¬ (x = -1) → ¬ (dN h k n.toNat < d) → nnP h w k (n + 1) x d) := by
  refine ⟨fun e => ?_, fun e1 e2 => ?_, fun e1 e2 e3 => ?_⟩
  · rcases hp with ⟨rfl, a⟩ | ⟨q, a1, a2, a3, a4, a5, a6⟩
    · refine Or.inl ⟨rfl, fun i hi => ?_⟩
      by_cases z : (i : Int) = n
      · rw [show i = n.toNat by omega]; exact e
      · exact a i (by omega)
    · refine Or.inr ⟨q, by omega, a2, a3, a4, fun i hi hw => ?_, a6⟩
      by_cases z : (i : Int) = n
      · rw [show i = n.toNat by omega] at hw; exact absurd hw e
      · exact a5 i (by omega) hw
  · refine Or.inr ⟨n.toNat, by omega, by omega, e1, rfl, fun i hi hw => ?_, fun i hi hw => ?_⟩
    · by_cases z : (i : Int) = n
      · rw [show i = n.toNat by omega]; exact Int.le_refl _
      · rcases hp with ⟨rfl, a⟩ | ⟨q, a1, a2, a3, a4, a5, a6⟩
        · exact absurd hw (a i (by omega))
        · have := a5 i (by omega) hw
          omega
    · rcases hp with ⟨rfl, a⟩ | ⟨q, a1, a2, a3, a4, a5, a6⟩
      · exact absurd hw (a i (by omega))
      · have := a5 i (by omega) hw
        omega
  · rcases hp with ⟨rfl, a⟩ | ⟨q, a1, a2, a3, a4, a5, a6⟩
    · exact absurd rfl e2
    · refine Or.inr ⟨q, by omega, a2, a3, a4, fun i hi hw => ?_, a6⟩
      by_cases z : (i : Int) = n
      · rw [show i = n.toNat by omega]; omega
      · exact a5 i (by omega) hw
theorem dE_congr {h h' : HP} (e4 : h' 4 = h 4) (e5 : h' 5 = h 5) (e7 : h' 7 = h 7) (e21 : h' 21 = h 21) (e22 : h' 22 = h 22) (k n i j : Nat) : dE h' k n i j = dE h k n i j := by
  unfold dE tw nmF
  rw [e4, e5, e7, e21, e22]
theorem dN_congr {h h' : HP} (e4 : h' 4 = h 4) (e5 : h' 5 = h 5) (e7 : h' 7 = h 7) (e8 : h' 8 = h 8) (e21 : h' 21 = h 21) (e22 : h' 22 = h 22) (e23 : h' 23 = h 23) (k n : Nat) : dN h' k n = dN h k n := by
  unfold dN
  rw [dE_congr e4 e5 e7 e21 e22, e8, e23]
theorem tyIn_congr {h h' : HP} (e21 : h' 21 = h 21) (e22 : h' 22 = h 22) (e23 : h' 23 = h 23) {k : Nat} (hk : tyIn h k) : tyIn h' k := by
  unfold tyIn tw at *
  rw [e21, e22, e23]
  exact hk
theorem nmIn_congr {h h' : HP} (e7 : h' 7 = h 7) (e8 : h' 8 = h 8) {n : Nat} (hk : nmIn h n) : nmIn h' n := by
  unfold nmIn nmF at *
  rw [e7, e8]
  exact hk
set_option maxRecDepth 100000 in
set_option maxHeartbeats 4000000 in
theorem l_Table_nearestName28 (h0 : HP) (w : Int) (k : Nat) (hS : CS h0) (hN : CN h0) (hk : tyIn h0 k) (hk10 : k < 10) : ∀ (d : Nat) (i b : Int) (h : HP) (x6 : Option AV), h0 6 3 - i < d → 0 ≤ i → i ≤ h0 6 3 → tbF 28 29 h0 h → nnP h0 w k i b (h 28 5) → Wn Z4 mTable_nearestName SH0 11 [some (.inr (.inr 28)), some (.inl w), some (.inr (.inr 19)), some (.inl k), some (.inl b), some (.inl i), x6] [] h (rtI (fun r h' => tbF 28 29 h0 h' ∧ nnP h0 w k (h0 6 3) r (h' 28 5))) := by
  intro d
  induction d with
  | zero => intro i b h x6 h1 h2 h3; omega
  | succ d ih =>
    intro i b h x6 h1 h2 h3 h4 h5
    have ff : ∀ a, a < 24 → h a = h0 a := fun a ha => h4.1 a (by omega) (by omega)
    have g6 : h 6 = h0 6 := ff 6 (by decide)
    have g9 : h 9 = h0 9 := ff 9 (by decide)
    have h90 := hN.2.1
    obtain ⟨n1, n2, n3⟩ := nnP_s h2 h5
    have ei : ((i.toNat : Nat) : Int) = i := by omega
    refine go [11] 400 (k := ?_)
    simp (config := {maxSteps := 1000000}) only [↓pI_c, ↓pR_c, ↓pJ_c, ↓pV_c, ↓popN_0, ↓popN_s, ↓lI_0, ↓lR_0, ↓lJ_0, ↓lI_s, ↓lR_s, ↓lJ_s, ↓okSt_0, ↓okSt_I, ↓okSt_R, ↓okSt_N, ↓okSt_s, ↓rtI_s, ↓rtV_n, ↓brP_t, ↓brP_f, ↓sTable_nearestName_0, ↓sTable_nearestName_1, ↓sTable_nearestName_3, ↓sTable_nearestName_4, ↓sTable_nearestName_5, ↓rf_28_5, ↓rf_41_5, ↓sTable_nearestName_8, ↓sTable_nearestName_9, ↓sTable_nearestName_11, ↓sTable_nearestName_13, ↓sTable_nearestName_14, ↓rf_28_1, ↓rf_41_1, ↓sTable_nearestName_17, ↓rf_6_3, ↓sTable_nearestName_20, ↓sTable_nearestName_23, ↓sTable_nearestName_24, ↓sTable_nearestName_27, ↓rf_6_2, ↓sTable_nearestName_30, ↓sTable_nearestName_32, ↓sTable_nearestName_33, ↓sTable_nearestName_34, ↓sTable_nearestName_37, ↓sTable_nearestName_40, ↓sTable_nearestName_41, ↓sTable_nearestName_43, ↓sTable_nearestName_44, ↓sTable_nearestName_45, ↓sTable_nearestName_48, ↓sTable_nearestName_50, ↓sTable_nearestName_52, ↓sTable_nearestName_53, ↓sTable_nearestName_56, ↓sTable_nearestName_58, ↓sTable_nearestName_59, ↓sTable_nearestName_62, ↓sTable_nearestName_65, ↓sTable_nearestName_67, ↓sTable_nearestName_69, ↓sTable_nearestName_70, ↓sTable_nearestName_72, ↓sTable_nearestName_75, ↓sTable_nearestName_78, ↓sTable_nearestName_81, ↓sTable_nearestName_83, ↓ln_9, List.set_cons_zero, List.set_cons_succ, List.length_cons, List.length_nil, List.contains_cons, List.contains_nil, cat1, brP_d, true_and, and_true, not_false_eq_true, not_true_eq_false, if_true, if_false, Bool.or_false, Bool.false_or, Bool.or_true, Bool.true_or, Bool.false_eq_true, Bool.or_self, false_implies, true_implies, forall_const, and_self, implies_true, true_or, or_true, or_false, false_or, or_self, Classical.not_not, Int.reduceAdd, Int.reduceSub, Int.reduceMul, Int.reduceNeg, Int.reduceToNat, Int.reduceLT, Int.reduceLE, Int.reduceEq, Int.reduceNe, Int.reduceNatCast', Nat.reduceAdd, Nat.reduceSub, Nat.reduceLeDiff, Nat.reduceLT, Nat.reduceEqDiff, Nat.reduceBEq, reduceIte, nx_w, nx_c, up_n, up_s, up_f, ne_eq, Nat.reduceEqDiff, Option.some.injEq, Prod.mk.injEq, exists_eq_left', reduceCtorEq, ob_28, ob_41, g6, g9]
    rw [wr_id (x := i + 1) (by omega) (by omega)]
    refine ⟨fun h6 => ⟨h4, by rw [show h0 6 3 = i by omega]; exact h5⟩, fun h6 => ⟨by omega, fun h7 => ?_, fun h7 => ih (i + 1) b h _ (by omega) (by omega) (by omega) h4 (n1 h7)⟩⟩
    have := t_Table_fill28 h k i.toNat (by unfold CS; rw [ff 4 (by decide), ff 5 (by decide)]; exact hS) (tyIn_congr (ff 21 (by decide)) (ff 22 (by decide)) (ff 23 (by decide)) hk) (nmIn_congr (ff 7 (by decide)) (ff 8 (by decide)) (nm_in hN (by omega))) hk10
    rw [ei] at this
    refine trI_use this ?_
    rintro r h' ⟨⟨f1, f2, f3, f4, f5⟩, f6⟩
    rw [dN_congr (ff 4 (by decide)) (ff 5 (by decide)) (ff 7 (by decide)) (ff 8 (by decide)) (ff 21 (by decide)) (ff 22 (by decide)) (ff 23 (by decide))] at f6
    have t1 : tbF 28 29 h0 h' := ⟨fun a a1 a2 => (f1 a a1 a2).trans (h4.1 a a1 a2), fun b b1 b2 b3 => (f4 b b1 b2).trans (h4.2 b b1 b2 b3)⟩
    have t2 : tbF 28 29 h0 (up h' 28 5 r) := ⟨fun a a1 a2 => by rw [up_ne a1]; exact t1.1 a a1 a2, fun b b1 b2 b3 => by rw [up_f b3]; exact t1.2 b b1 b2 b3⟩
    have e5 : h' 28 5 = h 28 5 := f4 5 (by decide) (by decide)
    rw [e5]
    have yes : (b = -1 ∨ r < h 28 5) → Wn Z4 mTable_nearestName SH0 11 [some (.inr (.inr 28)), some (.inl w), some (.inr (.inr 19)), some (.inl k), some (.inl i), some (.inl (i + 1)), some (.inl r)] [] (up h' 28 5 r) (rtI (fun r h' => tbF 28 29 h0 h' ∧ nnP h0 w k (h0 6 3) r (h' 28 5))) := fun z => ih (i + 1) i _ _ (by omega) (by omega) (by omega) t2 (by rw [up_s, f6]; exact n2 h7 (by rw [← f6]; exact z))
    refine ⟨fun h8 => yes (Or.inl h8), fun h8 => ⟨fun h9 => ih (i + 1) b h' _ (by omega) (by omega) (by omega) t1 (by rw [e5]; exact n3 h7 h8 (by rw [← f6]; omega)), fun h9 => yes (Or.inr (by omega))⟩⟩
set_option maxRecDepth 100000 in
set_option maxHeartbeats 4000000 in
theorem t_Table_nearestName28 (h : HP) (w : Int) (k : Nat) (hS : CS h) (hN : CN h) (hk : tyIn h k) (hk10 : k < 10) : trI mTable_nearestName [.inr (.inr 28), .inl w, .inr (.inr 19), .inl k] SH0 h (fun r h' => tbF 28 29 h h' ∧ nnP h w k (h 6 3) r (h' 28 5)) := by
  refine startI [some (.inr (.inr 28)), some (.inl w), some (.inr (.inr 19)), some (.inl k), none, none, none] mTable_nearestName_c (go [11] 400 (k := ?_))
  simp (config := {maxSteps := 1000000}) only [↓pI_c, ↓pR_c, ↓pJ_c, ↓pV_c, ↓popN_0, ↓popN_s, ↓lI_0, ↓lR_0, ↓lJ_0, ↓lI_s, ↓lR_s, ↓lJ_s, ↓okSt_0, ↓okSt_I, ↓okSt_R, ↓okSt_N, ↓okSt_s, ↓rtI_s, ↓rtV_n, ↓brP_t, ↓brP_f, ↓sTable_nearestName_0, ↓sTable_nearestName_1, ↓sTable_nearestName_3, ↓sTable_nearestName_4, ↓sTable_nearestName_5, ↓rf_28_5, ↓rf_41_5, ↓sTable_nearestName_8, ↓sTable_nearestName_9, ↓sTable_nearestName_11, ↓sTable_nearestName_13, ↓sTable_nearestName_14, ↓rf_28_1, ↓rf_41_1, ↓sTable_nearestName_17, ↓rf_6_3, ↓sTable_nearestName_20, ↓sTable_nearestName_23, ↓sTable_nearestName_24, ↓sTable_nearestName_27, ↓rf_6_2, ↓sTable_nearestName_30, ↓sTable_nearestName_32, ↓sTable_nearestName_33, ↓sTable_nearestName_34, ↓sTable_nearestName_37, ↓sTable_nearestName_40, ↓sTable_nearestName_41, ↓sTable_nearestName_43, ↓sTable_nearestName_44, ↓sTable_nearestName_45, ↓sTable_nearestName_48, ↓sTable_nearestName_50, ↓sTable_nearestName_52, ↓sTable_nearestName_53, ↓sTable_nearestName_56, ↓sTable_nearestName_58, ↓sTable_nearestName_59, ↓sTable_nearestName_62, ↓sTable_nearestName_65, ↓sTable_nearestName_67, ↓sTable_nearestName_69, ↓sTable_nearestName_70, ↓sTable_nearestName_72, ↓sTable_nearestName_75, ↓sTable_nearestName_78, ↓sTable_nearestName_81, ↓sTable_nearestName_83, ↓ln_9, List.set_cons_zero, List.set_cons_succ, List.length_cons, List.length_nil, List.contains_cons, List.contains_nil, cat1, brP_d, true_and, and_true, not_false_eq_true, not_true_eq_false, if_true, if_false, Bool.or_false, Bool.false_or, Bool.or_true, Bool.true_or, Bool.false_eq_true, Bool.or_self, false_implies, true_implies, forall_const, and_self, implies_true, true_or, or_true, or_false, false_or, or_self, Classical.not_not, Int.reduceAdd, Int.reduceSub, Int.reduceMul, Int.reduceNeg, Int.reduceToNat, Int.reduceLT, Int.reduceLE, Int.reduceEq, Int.reduceNe, Int.reduceNatCast', Nat.reduceAdd, Nat.reduceSub, Nat.reduceLeDiff, Nat.reduceLT, Nat.reduceEqDiff, Nat.reduceBEq, reduceIte, nx_w, nx_c, up_n, up_s, up_f, ne_eq, Nat.reduceEqDiff, Option.some.injEq, Prod.mk.injEq, exists_eq_left', reduceCtorEq, ob_28, ob_41]
  exact l_Table_nearestName28 h w k hS hN hk hk10 ((h 6 3).toNat + 1) 0 (-1) _ _ (by have := hN.1; omega) (by omega) hN.1 ⟨fun a a1 a2 => up_ne a1, fun b b1 b2 b3 => up_f b3⟩ (Or.inl ⟨rfl, fun i hi => by omega⟩)
set_option maxRecDepth 100000 in
set_option maxHeartbeats 4000000 in
theorem l_Table_nearestName41 (h0 : HP) (w : Int) (k : Nat) (hS : CS h0) (hN : CN h0) (hk : tyIn h0 k) (hk10 : k < 10) : ∀ (d : Nat) (i b : Int) (h : HP) (x6 : Option AV), h0 6 3 - i < d → 0 ≤ i → i ≤ h0 6 3 → tbF 41 42 h0 h → nnP h0 w k i b (h 41 5) → Wn Z4 mTable_nearestName SH0 11 [some (.inr (.inr 41)), some (.inl w), some (.inr (.inr 19)), some (.inl k), some (.inl b), some (.inl i), x6] [] h (rtI (fun r h' => tbF 41 42 h0 h' ∧ nnP h0 w k (h0 6 3) r (h' 41 5))) := by
  intro d
  induction d with
  | zero => intro i b h x6 h1 h2 h3; omega
  | succ d ih =>
    intro i b h x6 h1 h2 h3 h4 h5
    have ff : ∀ a, a < 24 → h a = h0 a := fun a ha => h4.1 a (by omega) (by omega)
    have g6 : h 6 = h0 6 := ff 6 (by decide)
    have g9 : h 9 = h0 9 := ff 9 (by decide)
    have h90 := hN.2.1
    obtain ⟨n1, n2, n3⟩ := nnP_s h2 h5
    have ei : ((i.toNat : Nat) : Int) = i := by omega
    refine go [11] 400 (k := ?_)
    simp (config := {maxSteps := 1000000}) only [↓pI_c, ↓pR_c, ↓pJ_c, ↓pV_c, ↓popN_0, ↓popN_s, ↓lI_0, ↓lR_0, ↓lJ_0, ↓lI_s, ↓lR_s, ↓lJ_s, ↓okSt_0, ↓okSt_I, ↓okSt_R, ↓okSt_N, ↓okSt_s, ↓rtI_s, ↓rtV_n, ↓brP_t, ↓brP_f, ↓sTable_nearestName_0, ↓sTable_nearestName_1, ↓sTable_nearestName_3, ↓sTable_nearestName_4, ↓sTable_nearestName_5, ↓rf_28_5, ↓rf_41_5, ↓sTable_nearestName_8, ↓sTable_nearestName_9, ↓sTable_nearestName_11, ↓sTable_nearestName_13, ↓sTable_nearestName_14, ↓rf_28_1, ↓rf_41_1, ↓sTable_nearestName_17, ↓rf_6_3, ↓sTable_nearestName_20, ↓sTable_nearestName_23, ↓sTable_nearestName_24, ↓sTable_nearestName_27, ↓rf_6_2, ↓sTable_nearestName_30, ↓sTable_nearestName_32, ↓sTable_nearestName_33, ↓sTable_nearestName_34, ↓sTable_nearestName_37, ↓sTable_nearestName_40, ↓sTable_nearestName_41, ↓sTable_nearestName_43, ↓sTable_nearestName_44, ↓sTable_nearestName_45, ↓sTable_nearestName_48, ↓sTable_nearestName_50, ↓sTable_nearestName_52, ↓sTable_nearestName_53, ↓sTable_nearestName_56, ↓sTable_nearestName_58, ↓sTable_nearestName_59, ↓sTable_nearestName_62, ↓sTable_nearestName_65, ↓sTable_nearestName_67, ↓sTable_nearestName_69, ↓sTable_nearestName_70, ↓sTable_nearestName_72, ↓sTable_nearestName_75, ↓sTable_nearestName_78, ↓sTable_nearestName_81, ↓sTable_nearestName_83, ↓ln_9, List.set_cons_zero, List.set_cons_succ, List.length_cons, List.length_nil, List.contains_cons, List.contains_nil, cat1, brP_d, true_and, and_true, not_false_eq_true, not_true_eq_false, if_true, if_false, Bool.or_false, Bool.false_or, Bool.or_true, Bool.true_or, Bool.false_eq_true, Bool.or_self, false_implies, true_implies, forall_const, and_self, implies_true, true_or, or_true, or_false, false_or, or_self, Classical.not_not, Int.reduceAdd, Int.reduceSub, Int.reduceMul, Int.reduceNeg, Int.reduceToNat, Int.reduceLT, Int.reduceLE, Int.reduceEq, Int.reduceNe, Int.reduceNatCast', Nat.reduceAdd, Nat.reduceSub, Nat.reduceLeDiff, Nat.reduceLT, Nat.reduceEqDiff, Nat.reduceBEq, reduceIte, nx_w, nx_c, up_n, up_s, up_f, ne_eq, Nat.reduceEqDiff, Option.some.injEq, Prod.mk.injEq, exists_eq_left', reduceCtorEq, ob_28, ob_41, g6, g9]
    rw [wr_id (x := i + 1) (by omega) (by omega)]
    refine ⟨fun h6 => ⟨h4, by rw [show h0 6 3 = i by omega]; exact h5⟩, fun h6 => ⟨by omega, fun h7 => ?_, fun h7 => ih (i + 1) b h _ (by omega) (by omega) (by omega) h4 (n1 h7)⟩⟩
    have := t_Table_fill41 h k i.toNat (by unfold CS; rw [ff 4 (by decide), ff 5 (by decide)]; exact hS) (tyIn_congr (ff 21 (by decide)) (ff 22 (by decide)) (ff 23 (by decide)) hk) (nmIn_congr (ff 7 (by decide)) (ff 8 (by decide)) (nm_in hN (by omega))) hk10
    rw [ei] at this
    refine trI_use this ?_
    rintro r h' ⟨⟨f1, f2, f3, f4, f5⟩, f6⟩
    rw [dN_congr (ff 4 (by decide)) (ff 5 (by decide)) (ff 7 (by decide)) (ff 8 (by decide)) (ff 21 (by decide)) (ff 22 (by decide)) (ff 23 (by decide))] at f6
    have t1 : tbF 41 42 h0 h' := ⟨fun a a1 a2 => (f1 a a1 a2).trans (h4.1 a a1 a2), fun b b1 b2 b3 => (f4 b b1 b2).trans (h4.2 b b1 b2 b3)⟩
    have t2 : tbF 41 42 h0 (up h' 41 5 r) := ⟨fun a a1 a2 => by rw [up_ne a1]; exact t1.1 a a1 a2, fun b b1 b2 b3 => by rw [up_f b3]; exact t1.2 b b1 b2 b3⟩
    have e5 : h' 41 5 = h 41 5 := f4 5 (by decide) (by decide)
    rw [e5]
    have yes : (b = -1 ∨ r < h 41 5) → Wn Z4 mTable_nearestName SH0 11 [some (.inr (.inr 41)), some (.inl w), some (.inr (.inr 19)), some (.inl k), some (.inl i), some (.inl (i + 1)), some (.inl r)] [] (up h' 41 5 r) (rtI (fun r h' => tbF 41 42 h0 h' ∧ nnP h0 w k (h0 6 3) r (h' 41 5))) := fun z => ih (i + 1) i _ _ (by omega) (by omega) (by omega) t2 (by rw [up_s, f6]; exact n2 h7 (by rw [← f6]; exact z))
    refine ⟨fun h8 => yes (Or.inl h8), fun h8 => ⟨fun h9 => ih (i + 1) b h' _ (by omega) (by omega) (by omega) t1 (by rw [e5]; exact n3 h7 h8 (by rw [← f6]; omega)), fun h9 => yes (Or.inr (by omega))⟩⟩
set_option maxRecDepth 100000 in
set_option maxHeartbeats 4000000 in
theorem t_Table_nearestName41 (h : HP) (w : Int) (k : Nat) (hS : CS h) (hN : CN h) (hk : tyIn h k) (hk10 : k < 10) : trI mTable_nearestName [.inr (.inr 41), .inl w, .inr (.inr 19), .inl k] SH0 h (fun r h' => tbF 41 42 h h' ∧ nnP h w k (h 6 3) r (h' 41 5)) := by
  refine startI [some (.inr (.inr 41)), some (.inl w), some (.inr (.inr 19)), some (.inl k), none, none, none] mTable_nearestName_c (go [11] 400 (k := ?_))
  simp (config := {maxSteps := 1000000}) only [↓pI_c, ↓pR_c, ↓pJ_c, ↓pV_c, ↓popN_0, ↓popN_s, ↓lI_0, ↓lR_0, ↓lJ_0, ↓lI_s, ↓lR_s, ↓lJ_s, ↓okSt_0, ↓okSt_I, ↓okSt_R, ↓okSt_N, ↓okSt_s, ↓rtI_s, ↓rtV_n, ↓brP_t, ↓brP_f, ↓sTable_nearestName_0, ↓sTable_nearestName_1, ↓sTable_nearestName_3, ↓sTable_nearestName_4, ↓sTable_nearestName_5, ↓rf_28_5, ↓rf_41_5, ↓sTable_nearestName_8, ↓sTable_nearestName_9, ↓sTable_nearestName_11, ↓sTable_nearestName_13, ↓sTable_nearestName_14, ↓rf_28_1, ↓rf_41_1, ↓sTable_nearestName_17, ↓rf_6_3, ↓sTable_nearestName_20, ↓sTable_nearestName_23, ↓sTable_nearestName_24, ↓sTable_nearestName_27, ↓rf_6_2, ↓sTable_nearestName_30, ↓sTable_nearestName_32, ↓sTable_nearestName_33, ↓sTable_nearestName_34, ↓sTable_nearestName_37, ↓sTable_nearestName_40, ↓sTable_nearestName_41, ↓sTable_nearestName_43, ↓sTable_nearestName_44, ↓sTable_nearestName_45, ↓sTable_nearestName_48, ↓sTable_nearestName_50, ↓sTable_nearestName_52, ↓sTable_nearestName_53, ↓sTable_nearestName_56, ↓sTable_nearestName_58, ↓sTable_nearestName_59, ↓sTable_nearestName_62, ↓sTable_nearestName_65, ↓sTable_nearestName_67, ↓sTable_nearestName_69, ↓sTable_nearestName_70, ↓sTable_nearestName_72, ↓sTable_nearestName_75, ↓sTable_nearestName_78, ↓sTable_nearestName_81, ↓sTable_nearestName_83, ↓ln_9, List.set_cons_zero, List.set_cons_succ, List.length_cons, List.length_nil, List.contains_cons, List.contains_nil, cat1, brP_d, true_and, and_true, not_false_eq_true, not_true_eq_false, if_true, if_false, Bool.or_false, Bool.false_or, Bool.or_true, Bool.true_or, Bool.false_eq_true, Bool.or_self, false_implies, true_implies, forall_const, and_self, implies_true, true_or, or_true, or_false, false_or, or_self, Classical.not_not, Int.reduceAdd, Int.reduceSub, Int.reduceMul, Int.reduceNeg, Int.reduceToNat, Int.reduceLT, Int.reduceLE, Int.reduceEq, Int.reduceNe, Int.reduceNatCast', Nat.reduceAdd, Nat.reduceSub, Nat.reduceLeDiff, Nat.reduceLT, Nat.reduceEqDiff, Nat.reduceBEq, reduceIte, nx_w, nx_c, up_n, up_s, up_f, ne_eq, Nat.reduceEqDiff, Option.some.injEq, Prod.mk.injEq, exists_eq_left', reduceCtorEq, ob_28, ob_41]
  exact l_Table_nearestName41 h w k hS hN hk hk10 ((h 6 3).toNat + 1) 0 (-1) _ _ (by have := hN.1; omega) (by omega) hN.1 ⟨fun a a1 a2 => up_ne a1, fun b b1 b2 b3 => up_f b3⟩ (Or.inl ⟨rfl, fun i hi => by omega⟩)
