/-! the nearest rule of the reference -/
def mkP (g h0 h : HP) (r : Nat) (t w : Int) : Prop := (∀ a, a ≠ 73 → h a = h0 a) ∧ ∀ t' w' : Nat, (t' : Int) ≤ g 17 r → 1 ≤ w' → (w' : Int) ≤ mN g → (t < t' ∨ (t = t' ∧ w < w')) → h 73 (12 * t' + w') = clG g r t' (w' - 1)
theorem MS.r73 {h0 h : HP} (e : ∀ a, a ≠ 73 → h a = h0 a) : MS h0 h := ⟨fun k hk => e k (by omega), fun k j hp => by rw [e k (by rintro rfl; cases hp)]⟩
theorem jdG.r73 {g h0 h : HP} (e : ∀ a, a ≠ 73 → h a = h0 a) (hj : jdG g h0) : jdG g h := by
  unfold jdG at *
  rw [e 43 (by decide), e 62 (by decide), e 63 (by decide)]
  exact hj
set_option maxRecDepth 100000 in
set_option maxHeartbeats 4000000 in
theorem p2_Model_pairs (g h0 : HP) (hC : CI g) (hm : CM g h0) (hj : jdG g h0) (ha : allK g) (r : Nat) (hr' : (r : Int) < g 15 3) (t : Int) (ht : 0 ≤ t ∧ t ≤ g 17 r) (P : Option AV → HP → Prop) (hX : ∀ h x3 x4 x5 x6 x7, mkP g h0 h r (t - 1) (mN g) → Wn Z4 mModel_pairs SH0 7 [some (.inr (.inr 43)), some (.inl r), some (.inl (t - 1)), x3, x4, x5, x6, x7] [] h P) : ∀ (d : Nat) (w : Int) (h : HP) (x4 x5 x6 x7 : Option AV), w < d → 0 ≤ w → w ≤ mN g → mkP g h0 h r t w → Wn Z4 mModel_pairs SH0 16 [some (.inr (.inr 43)), some (.inl r), some (.inl t), some (.inl w), x4, x5, x6, x7] [] h P := by
  have hR := hC.2.2.1
  have h40 := hR.2.1
  have l4 := hR.2.2.2 r (by omega)
  have hn := mN_in hC.2.2.2.2
  have hpos := ha.1
  have er : ((r : Int)).toNat = r := by omega
  intro d
  induction d with
  | zero => intro w h x4 x5 x6 x7 h1 h2; omega
  | succ d ih =>
    intro w h x4 x5 x6 x7 h1 h2 h3 h4
    obtain ⟨f1, f2⟩ := h4
    have hm' := hm.ms (MS.r73 f1)
    have hj' := hj.r73 f1
    have e26 := hj'.1
    have e53 : h 53 r = g 17 r := hm'.2.2.1.2.2 r (by omega)
    have nxt : ∀ x y4 y5 y6 y7, 1 ≤ w → x = clG g r t.toNat (w.toNat - 1) → Wn Z4 mModel_pairs SH0 16 [some (.inr (.inr 43)), some (.inl r), some (.inl t), some (.inl (w - 1)), y4, y5, y6, y7] [] (up h 73 (12 * t + w).toNat x) P := by
      intro x y4 y5 y6 y7 h0w hx
      refine ih (w - 1) _ _ _ _ _ (by omega) (by omega) (by omega) ⟨fun a a1 => by rw [up_ne a1]; exact f1 a a1, fun t' w' q1 q0 q2 q3 => ?_⟩
      rw [up_a]
      by_cases e : 12 * t' + w' = (12 * t + w).toNat
      · have e1 : t' = t.toNat := by omega
        have e2 : w' = w.toNat := by omega
        rw [if_pos e, hx, e1, e2]
      · rw [if_neg e]
        exact f2 t' w' q1 q0 q2 (by omega)
    refine go [16,7] 400 (k := ?_)
    simp (config := {maxSteps := 1000000}) only [↓pI_c, ↓pR_c, ↓pJ_c, ↓pV_c, ↓popN_0, ↓popN_s, ↓lI_0, ↓lR_0, ↓lJ_0, ↓lI_s, ↓lR_s, ↓lJ_s, ↓okSt_0, ↓okSt_I, ↓okSt_R, ↓okSt_N, ↓okSt_s, ↓rtI_s, ↓rtV_n, ↓brP_t, ↓brP_f, ↓sModel_pairs_0, ↓sModel_pairs_1, ↓rf_43_13, ↓sModel_pairs_4, ↓sModel_pairs_5, ↓sModel_pairs_6, ↓sModel_pairs_7, ↓sModel_pairs_8, ↓sModel_pairs_11, ↓sModel_pairs_12, ↓rf_43_26, ↓sModel_pairs_15, ↓sModel_pairs_16, ↓sModel_pairs_17, ↓sModel_pairs_18, ↓sModel_pairs_21, ↓sModel_pairs_22, ↓sModel_pairs_24, ↓sModel_pairs_25, ↓sModel_pairs_26, ↓sModel_pairs_29, ↓sModel_pairs_30, ↓sModel_pairs_31, ↓sModel_pairs_34, ↓sModel_pairs_35, ↓sModel_pairs_36, ↓sModel_pairs_39, ↓sModel_pairs_42, ↓sModel_pairs_43, ↓rf_43_44, ↓sModel_pairs_46, ↓sModel_pairs_48, ↓sModel_pairs_49, ↓sModel_pairs_50, ↓sModel_pairs_51, ↓sModel_pairs_52, ↓sModel_pairs_53, ↓sModel_pairs_54, ↓sModel_pairs_55, ↓sModel_pairs_57, ↓sModel_pairs_58, ↓sModel_pairs_61, ↓sModel_pairs_63, ↓sModel_pairs_64, ↓sModel_pairs_65, ↓sModel_pairs_66, ↓sModel_pairs_67, ↓sModel_pairs_68, ↓sModel_pairs_69, ↓sModel_pairs_70, ↓sModel_pairs_72, ↓sModel_pairs_74, ↓sModel_pairs_76, ↓sModel_pairs_79, ↓sModel_pairs_81, ↓sModel_pairs_84, ↓sModel_pairs_86, ↓sModel_pairs_88, ↓sModel_pairs_89, ↓sModel_pairs_90, ↓sModel_pairs_93, ↓sModel_pairs_95, ↓sModel_pairs_96, ↓sModel_pairs_97, ↓sModel_pairs_98, ↓sModel_pairs_99, ↓sModel_pairs_100, ↓sModel_pairs_101, ↓sModel_pairs_102, ↓sModel_pairs_103, ↓sModel_pairs_104, ↓sModel_pairs_105, ↓sModel_pairs_107, ↓sModel_pairs_108, ↓sModel_pairs_109, ↓rf_43_28, ↓sModel_pairs_112, ↓sModel_pairs_113, ↓sModel_pairs_114, ↓sModel_pairs_115, ↓rf_43_12, ↓sModel_pairs_118, ↓sModel_pairs_119, ↓sModel_pairs_120, ↓sModel_pairs_121, ↓sModel_pairs_122, ↓sModel_pairs_123, ↓sModel_pairs_124, ↓sModel_pairs_127, ↓sModel_pairs_130, ↓sModel_pairs_132, ↓sModel_pairs_134, ↓sModel_pairs_137, ↓sModel_pairs_139, ↓sModel_pairs_142, ↓sModel_pairs_144, ↓sModel_pairs_146, ↓sModel_pairs_147, ↓sModel_pairs_150, ↓sModel_pairs_152, ↓sModel_pairs_153, ↓sModel_pairs_154, ↓sModel_pairs_155, ↓sModel_pairs_156, ↓sModel_pairs_158, ↓sModel_pairs_159, ↓sModel_pairs_162, ↓sModel_pairs_165, ↓sModel_pairs_168, ↓sModel_pairs_171, ↓sModel_pairs_172, ↓sModel_pairs_175, ↓sModel_pairs_176, ↓sModel_pairs_177, ↓ln_52, ↓ln_53, ↓ln_63, ↓ln_73, List.set_cons_zero, List.set_cons_succ, List.length_cons, List.length_nil, List.contains_cons, List.contains_nil, cat1, brP_d, true_and, and_true, not_false_eq_true, not_true_eq_false, if_true, if_false, Bool.or_false, Bool.false_or, Bool.or_true, Bool.true_or, Bool.false_eq_true, Bool.or_self, false_implies, true_implies, forall_const, and_self, implies_true, true_or, or_true, or_false, false_or, or_self, Classical.not_not, Int.reduceAdd, Int.reduceSub, Int.reduceMul, Int.reduceNeg, Int.reduceToNat, Int.reduceLT, Int.reduceLE, Int.reduceEq, Int.reduceNe, Int.reduceNatCast', Nat.reduceAdd, Nat.reduceSub, Nat.reduceLeDiff, Nat.reduceLT, Nat.reduceEqDiff, Nat.reduceBEq, reduceIte, nx_w, nx_c, up_n, up_s, up_f, ne_eq, Nat.reduceEqDiff, Option.some.injEq, Prod.mk.injEq, exists_eq_left', reduceCtorEq, ob_43, e26, e53, er]
    simp only [wr_id (x := t + -1) (by omega) (by omega), wr_id (x := w + -1) (by omega) (by omega), wr_id (x := 12 * t) (by omega) (by omega), wr_id (x := 12 * t + w) (by omega) (by omega), wr_id (x := 12 * t + w + 1) (by omega) (by omega), wr_id (x := t + 1) (by omega) (by omega), wr_id (x := 12 * (t + 1)) (by omega) (by omega), wr_id (x := 12 * (t + 1) + w) (by omega) (by omega), wr_id (x := 12 * (t + 1) + w + 1) (by omega) (by omega), wr_id (x := 4 * (r : Int)) (by omega) (by omega), wr_id (x := 4 * (r : Int) + t) (by omega) (by omega)]
    refine ⟨fun c1 => hX h _ _ _ _ _ ⟨f1, fun t' w' q1 q0 q2 q3 => f2 t' w' q1 q0 q2 (by omega)⟩, fun c1 => ⟨by omega, fun c2 => ⟨by omega, nxt 0 _ _ _ _ (by omega) (by unfold clG; rw [cl_T (by omega)])⟩, fun c2 => ⟨fun c3 => ⟨by omega, nxt 0 _ _ _ _ (by omega) (by unfold clG; rw [cl_B (by omega)])⟩, fun c3 => ?_⟩⟩⟩
    obtain ⟨W, rfl⟩ : ∃ W : Nat, w = (W : Int) + 1 := ⟨(w - 1).toNat, by omega⟩
    have b1 : h 73 (12 * (t.toNat + 1) + (W + 1)) = clG g r (t.toNat + 1) W := f2 _ _ (by push_cast; omega) (by omega) (by push_cast; omega) (by push_cast; omega)
    have b2 : h 73 (12 * t.toNat + (W + 2)) = clG g r t.toNat (W + 1) := f2 _ _ (by omega) (by omega) (by push_cast; omega) (by push_cast; omega)
    have b3 : h 73 (12 * (t.toNat + 1) + (W + 2)) = clG g r (t.toNat + 1) (W + 1) := f2 _ _ (by push_cast; omega) (by omega) (by push_cast; omega) (by push_cast; omega)
    have i3 : 0 ≤ clG g r (t.toNat + 1) (W + 1) ∧ clG g r (t.toNat + 1) (W + 1) ≤ (g 17 r).toNat := cl_in
    have hrec := cl_s (Q := prQ g r) (T := (g 17 r).toNat) (B := (mN g - 1).toNat) (t := t.toNat) (w := W) (by omega) (by omega)
    change (prQ g r t.toNat W ∧ clG g r t.toNat W = max (max (clG g r (t.toNat + 1) W) (clG g r t.toNat (W + 1))) (1 + clG g r (t.toNat + 1) (W + 1))) ∨ (¬ prQ g r t.toNat W ∧ clG g r t.toNat W = max (clG g r (t.toNat + 1) W) (clG g r t.toNat (W + 1))) at hrec
    have e63 := (hj'.2 (W + 1) (by push_cast; omega)).2
    have e52 : h 52 (4 * r + t.toNat) = g 18 (4 * r + t.toNat) := (hm'.2.2.1.2.1 r hr').2 t.toNat (by omega)
    have kw := (ha.2.2 (W + 1) (by push_cast; omega)).1
    have ia := t_Model_isAs g h hC.1 hm'.1 (mW g (W + 1)) (g 18 (4 * r + t.toNat)) kw
    rw [show (12 * (t + 1) + ((W : Int) + 1)).toNat = 12 * (t.toNat + 1) + (W + 1) by omega, show (12 * t + ((W : Int) + 1) + 1).toNat = 12 * t.toNat + (W + 2) by omega, show (12 * (t + 1) + ((W : Int) + 1) + 1).toNat = 12 * (t.toNat + 1) + (W + 2) by omega, show ((W : Int) + 1).toNat = W + 1 by omega, show (4 * (r : Int) + t).toNat = 4 * r + t.toNat by omega, b1, b2, b3, e63, e52, wr_id (x := 1 + clG g r (t.toNat + 1) (W + 1)) (by omega) (by omega)]
    have nxt' : ∀ x y4 y5 y6 y7, x = clG g r t.toNat W → Wn Z4 mModel_pairs SH0 16 [some (.inr (.inr 43)), some (.inl r), some (.inl t), some (.inl ((W : Int) + 1 + -1)), y4, y5, y6, y7] [] (up h 73 (12 * t + ((W : Int) + 1)).toNat x) P := fun x y4 y5 y6 y7 hx => nxt x y4 y5 y6 y7 (by omega) (by rw [show ((W : Int) + 1).toNat - 1 = W by omega]; exact hx)
    refine ⟨by omega, by omega, fun c4 => ⟨by omega, by omega, by omega, ?_⟩, fun c4 => ⟨by omega, by omega, by omega, ?_⟩⟩
    all_goals
      refine use_b ia (fun hc => ?_) (fun hc => ?_)
      · simp only [one_ne, not_false_eq_true, true_implies, false_implies, true_and, and_true]
        have e : clG g r t.toNat W = max (max (clG g r (t.toNat + 1) W) (clG g r t.toNat (W + 1))) (1 + clG g r (t.toNat + 1) (W + 1)) := by
          rcases hrec with ⟨_, e⟩ | ⟨e, _⟩
          · exact e
          · exact absurd hc e
        exact ⟨fun c5 => ⟨by omega, nxt' _ _ _ _ _ (by omega)⟩, fun c5 => ⟨by omega, nxt' _ _ _ _ _ (by omega)⟩⟩
      · simp only [not_true_eq_false, true_implies, false_implies, true_and, and_true]
        have e : clG g r t.toNat W = max (clG g r (t.toNat + 1) W) (clG g r t.toNat (W + 1)) := by
          rcases hrec with ⟨e, _⟩ | ⟨_, e⟩
          · exact absurd e hc
          · exact e
        exact ⟨by omega, nxt' _ _ _ _ _ (by omega)⟩
set_option maxRecDepth 100000 in
set_option maxHeartbeats 4000000 in
theorem p1_Model_pairs (g h0 : HP) (hC : CI g) (hm : CM g h0) (hj : jdG g h0) (ha : allK g) (r : Nat) (hr' : (r : Int) < g 15 3) : ∀ (d : Nat) (t : Int) (h : HP) (x3 x4 x5 x6 x7 : Option AV), t + 1 < d → -1 ≤ t → t ≤ g 17 r → mkP g h0 h r t (mN g) → Wn Z4 mModel_pairs SH0 7 [some (.inr (.inr 43)), some (.inl r), some (.inl t), x3, x4, x5, x6, x7] [] h (rtI (fun x h' => mkP g h0 h' r (-1) (mN g) ∧ x = clG g r 0 0)) := by
  have hn := mN_in hC.2.2.2.2
  have hpos := ha.1
  have hR := hC.2.2.1
  have l4 := hR.2.2.2 r (by have := hR.2.1; omega)
  intro d
  induction d with
  | zero => intro t h x3 x4 x5 x6 x7 h1 h2; omega
  | succ d ih =>
    intro t h x3 x4 x5 x6 x7 h1 h2 h3 h4
    have e26 := (hj.r73 h4.1).1
    refine go [16] 400 (k := ?_)
    simp (config := {maxSteps := 1000000}) only [↓pI_c, ↓pR_c, ↓pJ_c, ↓pV_c, ↓popN_0, ↓popN_s, ↓lI_0, ↓lR_0, ↓lJ_0, ↓lI_s, ↓lR_s, ↓lJ_s, ↓okSt_0, ↓okSt_I, ↓okSt_R, ↓okSt_N, ↓okSt_s, ↓rtI_s, ↓rtV_n, ↓brP_t, ↓brP_f, ↓sModel_pairs_0, ↓sModel_pairs_1, ↓rf_43_13, ↓sModel_pairs_4, ↓sModel_pairs_5, ↓sModel_pairs_6, ↓sModel_pairs_7, ↓sModel_pairs_8, ↓sModel_pairs_11, ↓sModel_pairs_12, ↓rf_43_26, ↓sModel_pairs_15, ↓sModel_pairs_16, ↓sModel_pairs_17, ↓sModel_pairs_18, ↓sModel_pairs_21, ↓sModel_pairs_22, ↓sModel_pairs_24, ↓sModel_pairs_25, ↓sModel_pairs_26, ↓sModel_pairs_29, ↓sModel_pairs_30, ↓sModel_pairs_31, ↓sModel_pairs_34, ↓sModel_pairs_35, ↓sModel_pairs_36, ↓sModel_pairs_39, ↓sModel_pairs_42, ↓sModel_pairs_43, ↓rf_43_44, ↓sModel_pairs_46, ↓sModel_pairs_48, ↓sModel_pairs_49, ↓sModel_pairs_50, ↓sModel_pairs_51, ↓sModel_pairs_52, ↓sModel_pairs_53, ↓sModel_pairs_54, ↓sModel_pairs_55, ↓sModel_pairs_57, ↓sModel_pairs_58, ↓sModel_pairs_61, ↓sModel_pairs_63, ↓sModel_pairs_64, ↓sModel_pairs_65, ↓sModel_pairs_66, ↓sModel_pairs_67, ↓sModel_pairs_68, ↓sModel_pairs_69, ↓sModel_pairs_70, ↓sModel_pairs_72, ↓sModel_pairs_74, ↓sModel_pairs_76, ↓sModel_pairs_79, ↓sModel_pairs_81, ↓sModel_pairs_84, ↓sModel_pairs_86, ↓sModel_pairs_88, ↓sModel_pairs_89, ↓sModel_pairs_90, ↓sModel_pairs_93, ↓sModel_pairs_95, ↓sModel_pairs_96, ↓sModel_pairs_97, ↓sModel_pairs_98, ↓sModel_pairs_99, ↓sModel_pairs_100, ↓sModel_pairs_101, ↓sModel_pairs_102, ↓sModel_pairs_103, ↓sModel_pairs_104, ↓sModel_pairs_105, ↓sModel_pairs_107, ↓sModel_pairs_108, ↓sModel_pairs_109, ↓rf_43_28, ↓sModel_pairs_112, ↓sModel_pairs_113, ↓sModel_pairs_114, ↓sModel_pairs_115, ↓rf_43_12, ↓sModel_pairs_118, ↓sModel_pairs_119, ↓sModel_pairs_120, ↓sModel_pairs_121, ↓sModel_pairs_122, ↓sModel_pairs_123, ↓sModel_pairs_124, ↓sModel_pairs_127, ↓sModel_pairs_130, ↓sModel_pairs_132, ↓sModel_pairs_134, ↓sModel_pairs_137, ↓sModel_pairs_139, ↓sModel_pairs_142, ↓sModel_pairs_144, ↓sModel_pairs_146, ↓sModel_pairs_147, ↓sModel_pairs_150, ↓sModel_pairs_152, ↓sModel_pairs_153, ↓sModel_pairs_154, ↓sModel_pairs_155, ↓sModel_pairs_156, ↓sModel_pairs_158, ↓sModel_pairs_159, ↓sModel_pairs_162, ↓sModel_pairs_165, ↓sModel_pairs_168, ↓sModel_pairs_171, ↓sModel_pairs_172, ↓sModel_pairs_175, ↓sModel_pairs_176, ↓sModel_pairs_177, ↓ln_52, ↓ln_53, ↓ln_63, ↓ln_73, List.set_cons_zero, List.set_cons_succ, List.length_cons, List.length_nil, List.contains_cons, List.contains_nil, cat1, brP_d, true_and, and_true, not_false_eq_true, not_true_eq_false, if_true, if_false, Bool.or_false, Bool.false_or, Bool.or_true, Bool.true_or, Bool.false_eq_true, Bool.or_self, false_implies, true_implies, forall_const, and_self, implies_true, true_or, or_true, or_false, false_or, or_self, Classical.not_not, Int.reduceAdd, Int.reduceSub, Int.reduceMul, Int.reduceNeg, Int.reduceToNat, Int.reduceLT, Int.reduceLE, Int.reduceEq, Int.reduceNe, Int.reduceNatCast', Nat.reduceAdd, Nat.reduceSub, Nat.reduceLeDiff, Nat.reduceLT, Nat.reduceEqDiff, Nat.reduceBEq, reduceIte, nx_w, nx_c, up_n, up_s, up_f, ne_eq, Nat.reduceEqDiff, Option.some.injEq, Prod.mk.injEq, exists_eq_left', reduceCtorEq, ob_43, e26]
    refine ⟨fun c1 => ?_, fun c1 => p2_Model_pairs g h0 hC hm hj ha r hr' t (by omega) _ (fun h' _ _ _ _ _ hf => ih (t - 1) h' _ _ _ _ _ (by omega) (by omega) (by omega) hf) ((mN g).toNat + 1) (mN g) h _ _ _ _ (by omega) (by omega) (by omega) h4⟩
    rw [show t = -1 by omega] at h4
    exact ⟨h4, h4.2 0 1 (by push_cast; omega) (by omega) (by push_cast; omega) (Or.inl (by decide))⟩
set_option maxRecDepth 100000 in
set_option maxHeartbeats 4000000 in
theorem t_Model_pairs (g h : HP) (hC : CI g) (hm : CM g h) (hj : jdG g h) (ha : allK g) (r : Nat) (hr' : (r : Int) < g 15 3) : trI mModel_pairs [.inr (.inr 43), .inl r] SH0 h (fun x h' => mkP g h h' r (-1) (mN g) ∧ x = clG g r 0 0) := by
  have hn := mN_in hC.2.2.2.2
  have hR := hC.2.2.1
  have h40 := hR.2.1
  have l4 := hR.2.2.2 r (by omega)
  have e53 : h 53 r = g 17 r := hm.2.2.1.2.2 r (by omega)
  refine startI [some (.inr (.inr 43)), some (.inl r), none, none, none, none, none, none] mModel_pairs_c (go [7] 400 (k := ?_))
  simp (config := {maxSteps := 1000000}) only [↓pI_c, ↓pR_c, ↓pJ_c, ↓pV_c, ↓popN_0, ↓popN_s, ↓lI_0, ↓lR_0, ↓lJ_0, ↓lI_s, ↓lR_s, ↓lJ_s, ↓okSt_0, ↓okSt_I, ↓okSt_R, ↓okSt_N, ↓okSt_s, ↓rtI_s, ↓rtV_n, ↓brP_t, ↓brP_f, ↓sModel_pairs_0, ↓sModel_pairs_1, ↓rf_43_13, ↓sModel_pairs_4, ↓sModel_pairs_5, ↓sModel_pairs_6, ↓sModel_pairs_7, ↓sModel_pairs_8, ↓sModel_pairs_11, ↓sModel_pairs_12, ↓rf_43_26, ↓sModel_pairs_15, ↓sModel_pairs_16, ↓sModel_pairs_17, ↓sModel_pairs_18, ↓sModel_pairs_21, ↓sModel_pairs_22, ↓sModel_pairs_24, ↓sModel_pairs_25, ↓sModel_pairs_26, ↓sModel_pairs_29, ↓sModel_pairs_30, ↓sModel_pairs_31, ↓sModel_pairs_34, ↓sModel_pairs_35, ↓sModel_pairs_36, ↓sModel_pairs_39, ↓sModel_pairs_42, ↓sModel_pairs_43, ↓rf_43_44, ↓sModel_pairs_46, ↓sModel_pairs_48, ↓sModel_pairs_49, ↓sModel_pairs_50, ↓sModel_pairs_51, ↓sModel_pairs_52, ↓sModel_pairs_53, ↓sModel_pairs_54, ↓sModel_pairs_55, ↓sModel_pairs_57, ↓sModel_pairs_58, ↓sModel_pairs_61, ↓sModel_pairs_63, ↓sModel_pairs_64, ↓sModel_pairs_65, ↓sModel_pairs_66, ↓sModel_pairs_67, ↓sModel_pairs_68, ↓sModel_pairs_69, ↓sModel_pairs_70, ↓sModel_pairs_72, ↓sModel_pairs_74, ↓sModel_pairs_76, ↓sModel_pairs_79, ↓sModel_pairs_81, ↓sModel_pairs_84, ↓sModel_pairs_86, ↓sModel_pairs_88, ↓sModel_pairs_89, ↓sModel_pairs_90, ↓sModel_pairs_93, ↓sModel_pairs_95, ↓sModel_pairs_96, ↓sModel_pairs_97, ↓sModel_pairs_98, ↓sModel_pairs_99, ↓sModel_pairs_100, ↓sModel_pairs_101, ↓sModel_pairs_102, ↓sModel_pairs_103, ↓sModel_pairs_104, ↓sModel_pairs_105, ↓sModel_pairs_107, ↓sModel_pairs_108, ↓sModel_pairs_109, ↓rf_43_28, ↓sModel_pairs_112, ↓sModel_pairs_113, ↓sModel_pairs_114, ↓sModel_pairs_115, ↓rf_43_12, ↓sModel_pairs_118, ↓sModel_pairs_119, ↓sModel_pairs_120, ↓sModel_pairs_121, ↓sModel_pairs_122, ↓sModel_pairs_123, ↓sModel_pairs_124, ↓sModel_pairs_127, ↓sModel_pairs_130, ↓sModel_pairs_132, ↓sModel_pairs_134, ↓sModel_pairs_137, ↓sModel_pairs_139, ↓sModel_pairs_142, ↓sModel_pairs_144, ↓sModel_pairs_146, ↓sModel_pairs_147, ↓sModel_pairs_150, ↓sModel_pairs_152, ↓sModel_pairs_153, ↓sModel_pairs_154, ↓sModel_pairs_155, ↓sModel_pairs_156, ↓sModel_pairs_158, ↓sModel_pairs_159, ↓sModel_pairs_162, ↓sModel_pairs_165, ↓sModel_pairs_168, ↓sModel_pairs_171, ↓sModel_pairs_172, ↓sModel_pairs_175, ↓sModel_pairs_176, ↓sModel_pairs_177, ↓ln_52, ↓ln_53, ↓ln_63, ↓ln_73, List.set_cons_zero, List.set_cons_succ, List.length_cons, List.length_nil, List.contains_cons, List.contains_nil, cat1, brP_d, true_and, and_true, not_false_eq_true, not_true_eq_false, if_true, if_false, Bool.or_false, Bool.false_or, Bool.or_true, Bool.true_or, Bool.false_eq_true, Bool.or_self, false_implies, true_implies, forall_const, and_self, implies_true, true_or, or_true, or_false, false_or, or_self, Classical.not_not, Int.reduceAdd, Int.reduceSub, Int.reduceMul, Int.reduceNeg, Int.reduceToNat, Int.reduceLT, Int.reduceLE, Int.reduceEq, Int.reduceNe, Int.reduceNatCast', Nat.reduceAdd, Nat.reduceSub, Nat.reduceLeDiff, Nat.reduceLT, Nat.reduceEqDiff, Nat.reduceBEq, reduceIte, nx_w, nx_c, up_n, up_s, up_f, ne_eq, Nat.reduceEqDiff, Option.some.injEq, Prod.mk.injEq, exists_eq_left', reduceCtorEq, ob_43]
  rw [show ((r : Int)).toNat = r by omega, e53]
  exact ⟨by omega, p1_Model_pairs g h hC hm hj ha r hr' ((g 17 r).toNat + 2) (g 17 r) h _ _ _ _ _ (by omega) (by omega) (by omega) ⟨fun _ _ => rfl, fun t' w' q1 q0 q2 q3 => by omega⟩⟩
def cpF (h0 h : HP) : Prop := (∀ a, a ≠ 43 → a ≠ 73 → a ≠ 74 → h a = h0 a) ∧ ∀ b, b ≠ 45 → b ≠ 46 → b ≠ 48 → h 43 b = h0 43 b
theorem cpF.rf {h : HP} : cpF h h := ⟨fun _ _ _ _ => rfl, fun _ _ _ _ => rfl⟩
theorem cpF.tr {a b c : HP} (h1 : cpF a b) (h2 : cpF b c) : cpF a c := ⟨fun k a1 a2 a3 => (h2.1 k a1 a2 a3).trans (h1.1 k a1 a2 a3), fun k a1 a2 a3 => (h2.2 k a1 a2 a3).trans (h1.2 k a1 a2 a3)⟩
theorem cpF.mk {g h h' : HP} {r : Nat} {t w : Int} (e : mkP g h h' r t w) : cpF h h' := ⟨fun a _ a2 _ => e.1 a a2, fun b _ _ _ => by rw [e.1 43 (by decide)]⟩
theorem cpFu {h h' : HP} (h1 : cpF h h') {j : Nat} {x : Int} (hj : j = 45 ∨ j = 46 ∨ j = 48) : cpF h (up h' 43 j x) := ⟨fun a a1 a2 a3 => by rw [up_ne a1]; exact h1.1 a a1 a2 a3, fun b b1 b2 b3 => by rw [up_f (by omega)]; exact h1.2 b b1 b2 b3⟩
theorem cpFu4 {h h' : HP} (h1 : cpF h h') {j : Nat} {x : Int} : cpF h (up h' 74 j x) := ⟨fun a a1 a2 a3 => by rw [up_ne a3]; exact h1.1 a a1 a2 a3, fun b b1 b2 b3 => by rw [up_n (by decide)]; exact h1.2 b b1 b2 b3⟩
theorem MS.cp {h0 h : HP} (e : cpF h0 h) : MS h0 h := ⟨fun k hk => e.1 k (by omega) (by omega) (by omega), fun k j hp => by
  by_cases z : k = 43
  · subst z
    exact e.2 j (by rintro rfl; cases hp) (by rintro rfl; cases hp) (by rintro rfl; cases hp)
  · rw [e.1 k z (by rintro rfl; cases hp) (by rintro rfl; cases hp)]⟩
theorem jdG.cp {g h0 h : HP} (e : cpF h0 h) (hj : jdG g h0) : jdG g h := by
  unfold jdG at *
  rw [e.2 26 (by decide) (by decide) (by decide), e.1 62 (by decide) (by decide) (by decide), e.1 63 (by decide) (by decide) (by decide)]
  exact hj
-- the search for the nearest rule
set_option maxRecDepth 100000 in
set_option maxHeartbeats 4000000 in
theorem c1_Model_compare (g h0 : HP) (hC : CI g) (hm : CM g h0) (hj : jdG g h0) (ha : allK g) (P : Option AV → HP → Prop) (hX : ∀ h l r x3, cpF h0 h → h 43 46 = h0 43 46 → h 43 48 = h0 43 48 → fmP (verbR g) (offG g) (g 15 3) (h 43 45) l → Wn Z4 mModel_compare SH0 111 [some (.inr (.inr 43)), some (.inl l), some (.inl r), x3, none, none, none, none] [] h P) : ∀ (d : Nat) (r l : Int) (h : HP) (x3 : Option AV), g 15 3 - r < d → 0 ≤ r → r ≤ g 15 3 → cpF h0 h → h 43 46 = h0 43 46 → h 43 48 = h0 43 48 → fmP (verbR g) (offG g) r (h 43 45) l → Wn Z4 mModel_compare SH0 40 [some (.inr (.inr 43)), some (.inl l), some (.inl r), x3, none, none, none, none] [] h P := by
  have hR := hC.2.2.1
  have h40 := hR.2.1
  have hn := mN_in hC.2.2.2.2
  have hpos := ha.1
  intro d
  induction d with
  | zero => intro r l h x3 h1 h2 h3; omega
  | succ d ih =>
    intro r l h x3 h1 h2 h3 h4 f4 f5 h5
    have hm' := hm.ms (MS.cp h4)
    have hj' := hj.cp h4
    have e10 := hm'.2.2.1.1
    have e63 := (hj'.2 0 (by omega)).2
    obtain ⟨n1, n2, n3⟩ := fmP_s h2 h5
    have er : ((r.toNat : Nat) : Int) = r := by omega
    refine go [40,111] 400 (k := ?_)
    simp (config := {maxSteps := 1000000}) only [↓pI_c, ↓pR_c, ↓pJ_c, ↓pV_c, ↓popN_0, ↓popN_s, ↓lI_0, ↓lR_0, ↓lJ_0, ↓lI_s, ↓lR_s, ↓lJ_s, ↓okSt_0, ↓okSt_I, ↓okSt_R, ↓okSt_N, ↓okSt_s, ↓rtI_s, ↓rtV_n, ↓brP_t, ↓brP_f, ↓sModel_compare_0, ↓sModel_compare_1, ↓sModel_compare_4, ↓sModel_compare_5, ↓sModel_compare_6, ↓rf_43_45, ↓sModel_compare_9, ↓sModel_compare_10, ↓sModel_compare_11, ↓rf_43_46, ↓sModel_compare_14, ↓sModel_compare_15, ↓sModel_compare_16, ↓rf_43_48, ↓sModel_compare_19, ↓sModel_compare_20, ↓rf_43_29, ↓sModel_compare_23, ↓sModel_compare_26, ↓sModel_compare_27, ↓sModel_compare_30, ↓sModel_compare_32, ↓sModel_compare_35, ↓sModel_compare_36, ↓sModel_compare_37, ↓sModel_compare_38, ↓sModel_compare_39, ↓sModel_compare_40, ↓sModel_compare_41, ↓sModel_compare_42, ↓rf_43_10, ↓sModel_compare_45, ↓sModel_compare_48, ↓sModel_compare_49, ↓rf_43_11, ↓sModel_compare_52, ↓sModel_compare_53, ↓sModel_compare_54, ↓sModel_compare_55, ↓rf_43_28, ↓sModel_compare_58, ↓sModel_compare_59, ↓sModel_compare_60, ↓sModel_compare_63, ↓sModel_compare_64, ↓rf_43_13, ↓sModel_compare_67, ↓sModel_compare_68, ↓sModel_compare_69, ↓sModel_compare_70, ↓rf_43_26, ↓sModel_compare_73, ↓sModel_compare_74, ↓sModel_compare_75, ↓sModel_compare_76, ↓sModel_compare_77, ↓sModel_compare_78, ↓sModel_compare_79, ↓sModel_compare_82, ↓sModel_compare_83, ↓sModel_compare_84, ↓sModel_compare_85, ↓sModel_compare_86, ↓sModel_compare_89, ↓sModel_compare_90, ↓sModel_compare_93, ↓sModel_compare_94, ↓sModel_compare_95, ↓sModel_compare_98, ↓sModel_compare_99, ↓sModel_compare_100, ↓sModel_compare_103, ↓sModel_compare_104, ↓sModel_compare_105, ↓sModel_compare_108, ↓sModel_compare_111, ↓sModel_compare_112, ↓sModel_compare_115, ↓sModel_compare_116, ↓sModel_compare_119, ↓sModel_compare_120, ↓sModel_compare_121, ↓sModel_compare_124, ↓sModel_compare_125, ↓sModel_compare_126, ↓sModel_compare_127, ↓sModel_compare_130, ↓sModel_compare_131, ↓sModel_compare_132, ↓sModel_compare_133, ↓sModel_compare_136, ↓sModel_compare_137, ↓sModel_compare_138, ↓sModel_compare_139, ↓sModel_compare_140, ↓sModel_compare_143, ↓sModel_compare_144, ↓sModel_compare_146, ↓sModel_compare_147, ↓sModel_compare_149, ↓sModel_compare_151, ↓sModel_compare_152, ↓sModel_compare_155, ↓sModel_compare_156, ↓sModel_compare_157, ↓sModel_compare_160, ↓sModel_compare_161, ↓sModel_compare_163, ↓sModel_compare_165, ↓sModel_compare_167, ↓sModel_compare_169, ↓sModel_compare_170, ↓sModel_compare_173, ↓sModel_compare_176, ↓sModel_compare_178, ↓sModel_compare_179, ↓sModel_compare_182, ↓sModel_compare_183, ↓sModel_compare_186, ↓sModel_compare_187, ↓sModel_compare_188, ↓sModel_compare_191, ↓sModel_compare_193, ↓sModel_compare_194, ↓sModel_compare_195, ↓rf_43_12, ↓sModel_compare_198, ↓sModel_compare_199, ↓sModel_compare_200, ↓sModel_compare_201, ↓sModel_compare_203, ↓sModel_compare_204, ↓sModel_compare_205, ↓sModel_compare_208, ↓sModel_compare_211, ↓sModel_compare_212, ↓sModel_compare_213, ↓rf_43_44, ↓sModel_compare_216, ↓sModel_compare_218, ↓sModel_compare_220, ↓sModel_compare_221, ↓sModel_compare_222, ↓sModel_compare_223, ↓sModel_compare_225, ↓sModel_compare_226, ↓sModel_compare_227, ↓sModel_compare_228, ↓sModel_compare_229, ↓sModel_compare_230, ↓sModel_compare_231, ↓sModel_compare_234, ↓sModel_compare_236, ↓sModel_compare_239, ↓sModel_compare_240, ↓sModel_compare_242, ↓sModel_compare_245, ↓sModel_compare_248, ↓sModel_compare_250, ↓sModel_compare_251, ↓sModel_compare_254, ↓sModel_compare_255, ↓rf_43_47, ↓sModel_compare_258, ↓sModel_compare_259, ↓sModel_compare_262, ↓sModel_compare_263, ↓sModel_compare_266, ↓sModel_compare_267, ↓sModel_compare_268, ↓sModel_compare_269, ↓sModel_compare_271, ↓sModel_compare_272, ↓sModel_compare_273, ↓sModel_compare_274, ↓sModel_compare_275, ↓sModel_compare_276, ↓sModel_compare_279, ↓sModel_compare_280, ↓sModel_compare_281, ↓sModel_compare_284, ↓sModel_compare_287, ↓sModel_compare_289, ↓sModel_compare_290, ↓sModel_compare_291, ↓sModel_compare_293, ↓sModel_compare_296, ↓sModel_compare_299, ↓sModel_compare_302, ↓ln_51, ↓ln_52, ↓ln_53, ↓ln_63, ↓ln_73, ↓ln_74, List.set_cons_zero, List.set_cons_succ, List.length_cons, List.length_nil, List.contains_cons, List.contains_nil, cat1, brP_d, true_and, and_true, not_false_eq_true, not_true_eq_false, if_true, if_false, Bool.or_false, Bool.false_or, Bool.or_true, Bool.true_or, Bool.false_eq_true, Bool.or_self, false_implies, true_implies, forall_const, and_self, implies_true, true_or, or_true, or_false, false_or, or_self, Classical.not_not, Int.reduceAdd, Int.reduceSub, Int.reduceMul, Int.reduceNeg, Int.reduceToNat, Int.reduceLT, Int.reduceLE, Int.reduceEq, Int.reduceNe, Int.reduceNatCast', Nat.reduceAdd, Nat.reduceSub, Nat.reduceLeDiff, Nat.reduceLT, Nat.reduceEqDiff, Nat.reduceBEq, reduceIte, nx_w, nx_c, up_n, up_s, up_f, ne_eq, Nat.reduceEqDiff, Option.some.injEq, Prod.mk.injEq, exists_eq_left', reduceCtorEq, ob_43, e10, e63]
    rw [wr_id (x := r + 1) (by omega) (by omega)]
    refine ⟨fun c1 => hX h l r x3 h4 f4 f5 (by rw [show g 15 3 = r by omega]; exact h5), fun c1 => ?_⟩
    have e51 := (hm'.2.2.1.2.1 r.toNat (by omega)).1
    have e53 := hm'.2.2.1.2.2 r.toNat (by omega)
    rw [e51]
    refine ⟨by omega, fun c2 => ih (r + 1) l h _ (by omega) (by omega) (by omega) h4 f4 f5 (n1 c2), fun c2 => ⟨by omega, ?_⟩⟩
    have cp := t_Model_pairs g h hC hm' hj' ha r.toNat (by omega)
    rw [er] at cp
    refine trI_use cp ?_
    rintro x h' ⟨hc, rfl⟩
    have hf := h4.tr (cpF.mk hc)
    have l4 := hR.2.2.2 r.toNat (by omega)
    have g43 : h' 43 = h 43 := hc.1 43 (by decide)
    have i0 : 0 ≤ clG g r.toNat 0 0 ∧ clG g r.toNat 0 0 ≤ (g 17 r.toNat).toNat := cl_in
    have eo : g 17 r.toNat + mN g - 1 - 2 * clG g r.toNat 0 0 = offG g r.toNat := rfl
    rw [g43, e53, hj'.1, wr_id (x := g 17 r.toNat + mN g) (by omega) (by omega), wr_id (x := g 17 r.toNat + mN g - 1) (by omega) (by omega), wr_id (x := 2 * clG g r.toNat 0 0) (by omega) (by omega), wr_id (x := g 17 r.toNat + mN g - 1 - 2 * clG g r.toNat 0 0) (by omega) (by omega), eo]
    have k4 : h' 43 46 = h0 43 46 := by rw [g43]; exact f4
    have k5 : h' 43 48 = h0 43 48 := by rw [g43]; exact f5
    have yes : (h 43 45 = -1 ∨ offG g r.toNat < l) → Wn Z4 mModel_compare SH0 40 [some (.inr (.inr 43)), some (.inl (offG g r.toNat)), some (.inl (r + 1)), some (.inl (offG g r.toNat)), none, none, none, none] [] (up h' 43 45 r) P := fun z => ih (r + 1) _ _ _ (by omega) (by omega) (by omega) (cpFu hf (Or.inl rfl)) (by rw [up_f (by decide)]; exact k4) (by rw [up_f (by decide)]; exact k5) (by rw [up_s]; exact n2 c2 z)
    exact ⟨fun c3 => yes (Or.inl c3), fun c3 => ⟨fun c4 => ih (r + 1) l h' _ (by omega) (by omega) (by omega) hf k4 k5 (by rw [g43]; exact n3 c2 c3 (by omega)), fun c4 => yes (Or.inr (by omega))⟩⟩
def tabM (g h : HP) (r : Nat) : Prop := ∀ t' w' : Nat, (t' : Int) ≤ g 17 r → 1 ≤ w' → (w' : Int) ≤ mN g → h 73 (12 * t' + w') = clG g r t' (w' - 1)
-- the search for a partner
set_option maxRecDepth 100000 in
set_option maxHeartbeats 4000000 in
theorem c3_Model_compare (g h : HP) (hC : CI g) (hm : CM g h) (hj : jdG g h) (ha : allK g) (r : Nat) (hr' : (r : Int) < g 15 3) (hT : tabM g h r) (l t fr left : Int) (ht : 0 ≤ t ∧ t < g 17 r) (hfr : 0 ≤ fr) (P : Option AV → HP → Prop) (hX : ∀ x x7, ptR g r t.toNat fr left x → Wn Z4 mModel_compare SH0 248 [some (.inr (.inr 43)), some (.inl l), some (.inl r), some (.inl left), some (.inl (fr + 1)), some (.inl t), some (.inl (if x = -1 then -1 else x + 1)), x7] [] h P) : ∀ (d : Nat) (w y : Int), mN g + 1 - w < d → fr < w → w ≤ mN g + 1 → ((y = -1 ∧ ∀ j : Nat, fr ≤ j → (j : Int) + 1 < w → ¬ okP g r t.toNat left j) ∨ (¬ y = -1 ∧ ∃ x, y = x + 1 ∧ ¬ x = -1 ∧ ptR g r t.toNat fr left x)) → Wn Z4 mModel_compare SH0 167 [some (.inr (.inr 43)), some (.inl l), some (.inl r), some (.inl left), some (.inl (fr + 1)), some (.inl t), some (.inl y), some (.inl w)] [] h P := by
  have hR := hC.2.2.1
  have h40 := hR.2.1
  have l4 := hR.2.2.2 r (by omega)
  have hn := mN_in hC.2.2.2.2
  have e26 := hj.1
  have er : ((r : Int)).toNat = r := by omega
  intro d
  induction d with
  | zero => intro w y h1 h2 h3; omega
  | succ d ih =>
    intro w y h1 h2 h4 h5
    have stop : (¬ y = -1 ∨ mN g ≤ w ∨ left ≤ 0) → Wn Z4 mModel_compare SH0 248 [some (.inr (.inr 43)), some (.inl l), some (.inl r), some (.inl left), some (.inl (fr + 1)), some (.inl t), some (.inl y), some (.inl w)] [] h P := by
      intro z
      rcases h5 with ⟨y1, y2⟩ | ⟨y1, x, y2, y3, y4⟩
      · have hp : ptR g r t.toNat fr left (-1) := Or.inl ⟨rfl, fun j j1 j2 => by
          rcases z with z | z | z
          · exact absurd y1 z
          · exact y2 j j1 (by omega)
          · intro ok
            have i3 : 0 ≤ clG g r (t.toNat + 1) (j + 1) ∧ clG g r (t.toNat + 1) (j + 1) ≤ (g 17 r).toNat := cl_in
            have := ok.2
            omega⟩
        have := hX (-1) (some (.inl w)) hp
        rw [if_pos rfl] at this
        rw [y1]
        exact this
      · have := hX x (some (.inl w)) y4
        rw [if_neg y3] at this
        rw [y2]
        exact this
    refine go [167,248] 400 (k := ?_)
    simp (config := {maxSteps := 1000000}) only [↓pI_c, ↓pR_c, ↓pJ_c, ↓pV_c, ↓popN_0, ↓popN_s, ↓lI_0, ↓lR_0, ↓lJ_0, ↓lI_s, ↓lR_s, ↓lJ_s, ↓okSt_0, ↓okSt_I, ↓okSt_R, ↓okSt_N, ↓okSt_s, ↓rtI_s, ↓rtV_n, ↓brP_t, ↓brP_f, ↓sModel_compare_0, ↓sModel_compare_1, ↓sModel_compare_4, ↓sModel_compare_5, ↓sModel_compare_6, ↓rf_43_45, ↓sModel_compare_9, ↓sModel_compare_10, ↓sModel_compare_11, ↓rf_43_46, ↓sModel_compare_14, ↓sModel_compare_15, ↓sModel_compare_16, ↓rf_43_48, ↓sModel_compare_19, ↓sModel_compare_20, ↓rf_43_29, ↓sModel_compare_23, ↓sModel_compare_26, ↓sModel_compare_27, ↓sModel_compare_30, ↓sModel_compare_32, ↓sModel_compare_35, ↓sModel_compare_36, ↓sModel_compare_37, ↓sModel_compare_38, ↓sModel_compare_39, ↓sModel_compare_40, ↓sModel_compare_41, ↓sModel_compare_42, ↓rf_43_10, ↓sModel_compare_45, ↓sModel_compare_48, ↓sModel_compare_49, ↓rf_43_11, ↓sModel_compare_52, ↓sModel_compare_53, ↓sModel_compare_54, ↓sModel_compare_55, ↓rf_43_28, ↓sModel_compare_58, ↓sModel_compare_59, ↓sModel_compare_60, ↓sModel_compare_63, ↓sModel_compare_64, ↓rf_43_13, ↓sModel_compare_67, ↓sModel_compare_68, ↓sModel_compare_69, ↓sModel_compare_70, ↓rf_43_26, ↓sModel_compare_73, ↓sModel_compare_74, ↓sModel_compare_75, ↓sModel_compare_76, ↓sModel_compare_77, ↓sModel_compare_78, ↓sModel_compare_79, ↓sModel_compare_82, ↓sModel_compare_83, ↓sModel_compare_84, ↓sModel_compare_85, ↓sModel_compare_86, ↓sModel_compare_89, ↓sModel_compare_90, ↓sModel_compare_93, ↓sModel_compare_94, ↓sModel_compare_95, ↓sModel_compare_98, ↓sModel_compare_99, ↓sModel_compare_100, ↓sModel_compare_103, ↓sModel_compare_104, ↓sModel_compare_105, ↓sModel_compare_108, ↓sModel_compare_111, ↓sModel_compare_112, ↓sModel_compare_115, ↓sModel_compare_116, ↓sModel_compare_119, ↓sModel_compare_120, ↓sModel_compare_121, ↓sModel_compare_124, ↓sModel_compare_125, ↓sModel_compare_126, ↓sModel_compare_127, ↓sModel_compare_130, ↓sModel_compare_131, ↓sModel_compare_132, ↓sModel_compare_133, ↓sModel_compare_136, ↓sModel_compare_137, ↓sModel_compare_138, ↓sModel_compare_139, ↓sModel_compare_140, ↓sModel_compare_143, ↓sModel_compare_144, ↓sModel_compare_146, ↓sModel_compare_147, ↓sModel_compare_149, ↓sModel_compare_151, ↓sModel_compare_152, ↓sModel_compare_155, ↓sModel_compare_156, ↓sModel_compare_157, ↓sModel_compare_160, ↓sModel_compare_161, ↓sModel_compare_163, ↓sModel_compare_165, ↓sModel_compare_167, ↓sModel_compare_169, ↓sModel_compare_170, ↓sModel_compare_173, ↓sModel_compare_176, ↓sModel_compare_178, ↓sModel_compare_179, ↓sModel_compare_182, ↓sModel_compare_183, ↓sModel_compare_186, ↓sModel_compare_187, ↓sModel_compare_188, ↓sModel_compare_191, ↓sModel_compare_193, ↓sModel_compare_194, ↓sModel_compare_195, ↓rf_43_12, ↓sModel_compare_198, ↓sModel_compare_199, ↓sModel_compare_200, ↓sModel_compare_201, ↓sModel_compare_203, ↓sModel_compare_204, ↓sModel_compare_205, ↓sModel_compare_208, ↓sModel_compare_211, ↓sModel_compare_212, ↓sModel_compare_213, ↓rf_43_44, ↓sModel_compare_216, ↓sModel_compare_218, ↓sModel_compare_220, ↓sModel_compare_221, ↓sModel_compare_222, ↓sModel_compare_223, ↓sModel_compare_225, ↓sModel_compare_226, ↓sModel_compare_227, ↓sModel_compare_228, ↓sModel_compare_229, ↓sModel_compare_230, ↓sModel_compare_231, ↓sModel_compare_234, ↓sModel_compare_236, ↓sModel_compare_239, ↓sModel_compare_240, ↓sModel_compare_242, ↓sModel_compare_245, ↓sModel_compare_248, ↓sModel_compare_250, ↓sModel_compare_251, ↓sModel_compare_254, ↓sModel_compare_255, ↓rf_43_47, ↓sModel_compare_258, ↓sModel_compare_259, ↓sModel_compare_262, ↓sModel_compare_263, ↓sModel_compare_266, ↓sModel_compare_267, ↓sModel_compare_268, ↓sModel_compare_269, ↓sModel_compare_271, ↓sModel_compare_272, ↓sModel_compare_273, ↓sModel_compare_274, ↓sModel_compare_275, ↓sModel_compare_276, ↓sModel_compare_279, ↓sModel_compare_280, ↓sModel_compare_281, ↓sModel_compare_284, ↓sModel_compare_287, ↓sModel_compare_289, ↓sModel_compare_290, ↓sModel_compare_291, ↓sModel_compare_293, ↓sModel_compare_296, ↓sModel_compare_299, ↓sModel_compare_302, ↓ln_51, ↓ln_52, ↓ln_53, ↓ln_63, ↓ln_73, ↓ln_74, List.set_cons_zero, List.set_cons_succ, List.length_cons, List.length_nil, List.contains_cons, List.contains_nil, cat1, brP_d, true_and, and_true, not_false_eq_true, not_true_eq_false, if_true, if_false, Bool.or_false, Bool.false_or, Bool.or_true, Bool.true_or, Bool.false_eq_true, Bool.or_self, false_implies, true_implies, forall_const, and_self, implies_true, true_or, or_true, or_false, false_or, or_self, Classical.not_not, Int.reduceAdd, Int.reduceSub, Int.reduceMul, Int.reduceNeg, Int.reduceToNat, Int.reduceLT, Int.reduceLE, Int.reduceEq, Int.reduceNe, Int.reduceNatCast', Nat.reduceAdd, Nat.reduceSub, Nat.reduceLeDiff, Nat.reduceLT, Nat.reduceEqDiff, Nat.reduceBEq, reduceIte, nx_w, nx_c, up_n, up_s, up_f, ne_eq, Nat.reduceEqDiff, Option.some.injEq, Prod.mk.injEq, exists_eq_left', reduceCtorEq, ob_43, e26]
    refine ⟨fun c1 => stop (Or.inr (Or.inl c1)), fun c1 => ⟨fun c2 => stop (Or.inl c2), fun c2 => ⟨fun c3 => stop (Or.inr (Or.inr c3)), fun c3 => ?_⟩⟩⟩
    subst c2
    rcases h5 with ⟨_, y2⟩ | ⟨y1, _⟩
    · obtain ⟨W, rfl⟩ : ∃ W : Nat, w = (W : Int) + 1 := ⟨(w - 1).toNat, by omega⟩
      have e63 := (hj.2 (W + 1) (by push_cast; omega)).2
      have e52 : h 52 (4 * r + t.toNat) = g 18 (4 * r + t.toNat) := (hm.2.2.1.2.1 r hr').2 t.toNat (by omega)
      have kw := (ha.2.2 (W + 1) (by push_cast; omega)).1
      have ia := t_Model_isAs g h hC.1 hm.1 (mW g (W + 1)) (g 18 (4 * r + t.toNat)) kw
      have b3 : h 73 (12 * (t.toNat + 1) + (W + 2)) = clG g r (t.toNat + 1) (W + 1) := hT _ _ (by push_cast; omega) (by omega) (by push_cast; omega)
      have i3 : 0 ≤ clG g r (t.toNat + 1) (W + 1) ∧ clG g r (t.toNat + 1) (W + 1) ≤ (g 17 r).toNat := cl_in
      have no : ¬ okP g r t.toNat left W → Wn Z4 mModel_compare SH0 167 [some (.inr (.inr 43)), some (.inl l), some (.inl r), some (.inl left), some (.inl (fr + 1)), some (.inl t), some (.inl (-1)), some (.inl ((W : Int) + 1 + 1))] [] h P := fun z => ih _ _ (by omega) (by omega) (by omega) (Or.inl ⟨rfl, fun j j1 j2 => by
        by_cases e : j = W
        · rw [e]; exact z
        · exact y2 j j1 (by omega)⟩)
      have yes : okP g r t.toNat left W → Wn Z4 mModel_compare SH0 167 [some (.inr (.inr 43)), some (.inl l), some (.inl r), some (.inl left), some (.inl (fr + 1)), some (.inl t), some (.inl ((W : Int) + 1)), some (.inl ((W : Int) + 1 + 1))] [] h P := fun z => ih _ _ (by omega) (by omega) (by omega) (Or.inr ⟨by omega, W, rfl, by omega, Or.inr ⟨W, by omega, by omega, rfl, z, fun j j1 j2 => y2 j j1 (by omega)⟩⟩)
      simp only [wr_id (x := t + 1) (by omega) (by omega), wr_id (x := 12 * (t + 1)) (by omega) (by omega), wr_id (x := 12 * (t + 1) + ((W : Int) + 1)) (by omega) (by omega), wr_id (x := 12 * (t + 1) + ((W : Int) + 1) + 1) (by omega) (by omega), wr_id (x := 4 * (r : Int)) (by omega) (by omega), wr_id (x := 4 * (r : Int) + t) (by omega) (by omega), wr_id (x := (W : Int) + 1 + 1) (by omega) (by omega), show (12 * (t + 1) + ((W : Int) + 1) + 1).toNat = 12 * (t.toNat + 1) + (W + 2) by omega, show ((W : Int) + 1).toNat = W + 1 by omega, show (4 * (r : Int) + t).toNat = 4 * r + t.toNat by omega, e63, e52]
      refine ⟨by omega, by omega, ?_⟩
      refine use_b ia (fun hc => ?_) (fun hc => ?_)
      · simp only [one_ne, not_false_eq_true, true_implies, false_implies, true_and, and_true]
        rw [b3, wr_id (x := 1 + clG g r (t.toNat + 1) (W + 1)) (by omega) (by omega)]
        exact ⟨by omega, fun c5 => no (fun z => c5 z.2), fun c5 => yes ⟨hc, c5⟩⟩
      · simp only [not_true_eq_false, true_implies, false_implies, true_and, and_true]
        exact no (fun z => hc z.1)
    · exact absurd rfl y1
set_option maxRecDepth 100000 in
set_option maxHeartbeats 4000000 in
theorem c2_Model_compare (g h0 : HP) (hC : CI g) (hm : CM g h0) (hj : jdG g h0) (ha : allK g) (r : Nat) (hr' : (r : Int) < g 15 3) (hT : tabM g h0 r) (l : Int) : ∀ (d t : Nat) (h : HP) (x6 x7 : Option AV), g 17 r - t < d → (t : Int) ≤ g 17 r → 0 ≤ (cmS g r t).1 → (cmS g r t).1 < mN g → (∀ a, a ≠ 43 → a ≠ 74 → h a = h0 a) → (∀ b, b ≠ 46 → h 43 b = h0 43 b) → msA (h 43 46) (h 74) (cmS g r t) → Wn Z4 mModel_compare SH0 149 [some (.inr (.inr 43)), some (.inl l), some (.inl r), some (.inl ((cmS g r t).2.1)), some (.inl ((cmS g r t).1 + 1)), some (.inl t), x6, x7] [] h (rtV (fun h' => (∀ a, a ≠ 43 → a ≠ 74 → h' a = h0 a) ∧ (∀ b, b ≠ 46 → h' 43 b = h0 43 b) ∧ msA (h' 43 46) (h' 74) (cmS g r (g 17 r).toNat))) := by
  have hR := hC.2.2.1
  have h40 := hR.2.1
  have l4 := hR.2.2.2 r (by omega)
  have hn := mN_in hC.2.2.2.2
  have er : ((r : Int)).toNat = r := by omega
  intro d
  induction d with
  | zero => intro t h x6 x7 h1 h2; omega
  | succ d ih =>
    intro t h x6 x7 h1 h2 f1 f2 f3 f3' f4
    have fc : cpF h0 h := ⟨fun a a1 _ a3 => f3 a a1 a3, fun b _ b2 _ => f3' b b2⟩
    have hm' := hm.ms (MS.cp fc)
    have hj' := hj.cp fc
    have hT' : tabM g h r := by
      unfold tabM
      rw [f3 73 (by decide) (by decide)]
      exact hT
    have e53 := hm'.2.2.1.2.2 r (by omega)
    have hin := cmS_in (g := g) (r := r) t
    have ic : 0 ≤ clG g r 0 0 ∧ clG g r 0 0 ≤ (g 17 r).toNat := cl_in
    have e4 := f4.1
    have et : ((t : Int)).toNat = t := by omega
    refine go [167] 400 (k := ?_)
    simp (config := {maxSteps := 1000000}) only [↓pI_c, ↓pR_c, ↓pJ_c, ↓pV_c, ↓popN_0, ↓popN_s, ↓lI_0, ↓lR_0, ↓lJ_0, ↓lI_s, ↓lR_s, ↓lJ_s, ↓okSt_0, ↓okSt_I, ↓okSt_R, ↓okSt_N, ↓okSt_s, ↓rtI_s, ↓rtV_n, ↓brP_t, ↓brP_f, ↓sModel_compare_0, ↓sModel_compare_1, ↓sModel_compare_4, ↓sModel_compare_5, ↓sModel_compare_6, ↓rf_43_45, ↓sModel_compare_9, ↓sModel_compare_10, ↓sModel_compare_11, ↓rf_43_46, ↓sModel_compare_14, ↓sModel_compare_15, ↓sModel_compare_16, ↓rf_43_48, ↓sModel_compare_19, ↓sModel_compare_20, ↓rf_43_29, ↓sModel_compare_23, ↓sModel_compare_26, ↓sModel_compare_27, ↓sModel_compare_30, ↓sModel_compare_32, ↓sModel_compare_35, ↓sModel_compare_36, ↓sModel_compare_37, ↓sModel_compare_38, ↓sModel_compare_39, ↓sModel_compare_40, ↓sModel_compare_41, ↓sModel_compare_42, ↓rf_43_10, ↓sModel_compare_45, ↓sModel_compare_48, ↓sModel_compare_49, ↓rf_43_11, ↓sModel_compare_52, ↓sModel_compare_53, ↓sModel_compare_54, ↓sModel_compare_55, ↓rf_43_28, ↓sModel_compare_58, ↓sModel_compare_59, ↓sModel_compare_60, ↓sModel_compare_63, ↓sModel_compare_64, ↓rf_43_13, ↓sModel_compare_67, ↓sModel_compare_68, ↓sModel_compare_69, ↓sModel_compare_70, ↓rf_43_26, ↓sModel_compare_73, ↓sModel_compare_74, ↓sModel_compare_75, ↓sModel_compare_76, ↓sModel_compare_77, ↓sModel_compare_78, ↓sModel_compare_79, ↓sModel_compare_82, ↓sModel_compare_83, ↓sModel_compare_84, ↓sModel_compare_85, ↓sModel_compare_86, ↓sModel_compare_89, ↓sModel_compare_90, ↓sModel_compare_93, ↓sModel_compare_94, ↓sModel_compare_95, ↓sModel_compare_98, ↓sModel_compare_99, ↓sModel_compare_100, ↓sModel_compare_103, ↓sModel_compare_104, ↓sModel_compare_105, ↓sModel_compare_108, ↓sModel_compare_111, ↓sModel_compare_112, ↓sModel_compare_115, ↓sModel_compare_116, ↓sModel_compare_119, ↓sModel_compare_120, ↓sModel_compare_121, ↓sModel_compare_124, ↓sModel_compare_125, ↓sModel_compare_126, ↓sModel_compare_127, ↓sModel_compare_130, ↓sModel_compare_131, ↓sModel_compare_132, ↓sModel_compare_133, ↓sModel_compare_136, ↓sModel_compare_137, ↓sModel_compare_138, ↓sModel_compare_139, ↓sModel_compare_140, ↓sModel_compare_143, ↓sModel_compare_144, ↓sModel_compare_146, ↓sModel_compare_147, ↓sModel_compare_149, ↓sModel_compare_151, ↓sModel_compare_152, ↓sModel_compare_155, ↓sModel_compare_156, ↓sModel_compare_157, ↓sModel_compare_160, ↓sModel_compare_161, ↓sModel_compare_163, ↓sModel_compare_165, ↓sModel_compare_167, ↓sModel_compare_169, ↓sModel_compare_170, ↓sModel_compare_173, ↓sModel_compare_176, ↓sModel_compare_178, ↓sModel_compare_179, ↓sModel_compare_182, ↓sModel_compare_183, ↓sModel_compare_186, ↓sModel_compare_187, ↓sModel_compare_188, ↓sModel_compare_191, ↓sModel_compare_193, ↓sModel_compare_194, ↓sModel_compare_195, ↓rf_43_12, ↓sModel_compare_198, ↓sModel_compare_199, ↓sModel_compare_200, ↓sModel_compare_201, ↓sModel_compare_203, ↓sModel_compare_204, ↓sModel_compare_205, ↓sModel_compare_208, ↓sModel_compare_211, ↓sModel_compare_212, ↓sModel_compare_213, ↓rf_43_44, ↓sModel_compare_216, ↓sModel_compare_218, ↓sModel_compare_220, ↓sModel_compare_221, ↓sModel_compare_222, ↓sModel_compare_223, ↓sModel_compare_225, ↓sModel_compare_226, ↓sModel_compare_227, ↓sModel_compare_228, ↓sModel_compare_229, ↓sModel_compare_230, ↓sModel_compare_231, ↓sModel_compare_234, ↓sModel_compare_236, ↓sModel_compare_239, ↓sModel_compare_240, ↓sModel_compare_242, ↓sModel_compare_245, ↓sModel_compare_248, ↓sModel_compare_250, ↓sModel_compare_251, ↓sModel_compare_254, ↓sModel_compare_255, ↓rf_43_47, ↓sModel_compare_258, ↓sModel_compare_259, ↓sModel_compare_262, ↓sModel_compare_263, ↓sModel_compare_266, ↓sModel_compare_267, ↓sModel_compare_268, ↓sModel_compare_269, ↓sModel_compare_271, ↓sModel_compare_272, ↓sModel_compare_273, ↓sModel_compare_274, ↓sModel_compare_275, ↓sModel_compare_276, ↓sModel_compare_279, ↓sModel_compare_280, ↓sModel_compare_281, ↓sModel_compare_284, ↓sModel_compare_287, ↓sModel_compare_289, ↓sModel_compare_290, ↓sModel_compare_291, ↓sModel_compare_293, ↓sModel_compare_296, ↓sModel_compare_299, ↓sModel_compare_302, ↓ln_51, ↓ln_52, ↓ln_53, ↓ln_63, ↓ln_73, ↓ln_74, List.set_cons_zero, List.set_cons_succ, List.length_cons, List.length_nil, List.contains_cons, List.contains_nil, cat1, brP_d, true_and, and_true, not_false_eq_true, not_true_eq_false, if_true, if_false, Bool.or_false, Bool.false_or, Bool.or_true, Bool.true_or, Bool.false_eq_true, Bool.or_self, false_implies, true_implies, forall_const, and_self, implies_true, true_or, or_true, or_false, false_or, or_self, Classical.not_not, Int.reduceAdd, Int.reduceSub, Int.reduceMul, Int.reduceNeg, Int.reduceToNat, Int.reduceLT, Int.reduceLE, Int.reduceEq, Int.reduceNe, Int.reduceNatCast', Nat.reduceAdd, Nat.reduceSub, Nat.reduceLeDiff, Nat.reduceLT, Nat.reduceEqDiff, Nat.reduceBEq, reduceIte, nx_w, nx_c, up_n, up_s, up_f, ne_eq, Nat.reduceEqDiff, Option.some.injEq, Prod.mk.injEq, exists_eq_left', reduceCtorEq, ob_43, er, e53]
    refine ⟨by omega, fun c1 => ?_, fun c1 => ?_⟩
    · rw [show (g 17 r).toNat = t by omega]
      exact ⟨f3, f3', f4⟩
    · refine c3_Model_compare g h hC hm' hj' ha r hr' hT' l t _ _ (by omega) f1 _ ?_ ((mN g).toNat + 2) _ (-1) (by omega) (by omega) (by omega) (Or.inl ⟨rfl, fun j j1 j2 => by omega⟩)
      intro x y7 hx
      rw [et] at hx
      by_cases c2 : x = -1
      · subst c2
        rw [if_pos rfl]
        have es : cmS g r (t + 1) = ((cmS g r t).1, (cmS g r t).2.1, (cmS g r t).2.2.1 + 1, fun i => if i = (cmS g r t).2.2.1 then g 18 (4 * r + t) else (cmS g r t).2.2.2 i) := cmN_n hx
        have e52 : h 52 (4 * r + t) = g 18 (4 * r + t) := (hm'.2.2.1.2.1 r hr').2 t (by omega)
        refine go [149] 400 (k := ?_)
        simp (config := {maxSteps := 1000000}) only [↓pI_c, ↓pR_c, ↓pJ_c, ↓pV_c, ↓popN_0, ↓popN_s, ↓lI_0, ↓lR_0, ↓lJ_0, ↓lI_s, ↓lR_s, ↓lJ_s, ↓okSt_0, ↓okSt_I, ↓okSt_R, ↓okSt_N, ↓okSt_s, ↓rtI_s, ↓rtV_n, ↓brP_t, ↓brP_f, ↓sModel_compare_0, ↓sModel_compare_1, ↓sModel_compare_4, ↓sModel_compare_5, ↓sModel_compare_6, ↓rf_43_45, ↓sModel_compare_9, ↓sModel_compare_10, ↓sModel_compare_11, ↓rf_43_46, ↓sModel_compare_14, ↓sModel_compare_15, ↓sModel_compare_16, ↓rf_43_48, ↓sModel_compare_19, ↓sModel_compare_20, ↓rf_43_29, ↓sModel_compare_23, ↓sModel_compare_26, ↓sModel_compare_27, ↓sModel_compare_30, ↓sModel_compare_32, ↓sModel_compare_35, ↓sModel_compare_36, ↓sModel_compare_37, ↓sModel_compare_38, ↓sModel_compare_39, ↓sModel_compare_40, ↓sModel_compare_41, ↓sModel_compare_42, ↓rf_43_10, ↓sModel_compare_45, ↓sModel_compare_48, ↓sModel_compare_49, ↓rf_43_11, ↓sModel_compare_52, ↓sModel_compare_53, ↓sModel_compare_54, ↓sModel_compare_55, ↓rf_43_28, ↓sModel_compare_58, ↓sModel_compare_59, ↓sModel_compare_60, ↓sModel_compare_63, ↓sModel_compare_64, ↓rf_43_13, ↓sModel_compare_67, ↓sModel_compare_68, ↓sModel_compare_69, ↓sModel_compare_70, ↓rf_43_26, ↓sModel_compare_73, ↓sModel_compare_74, ↓sModel_compare_75, ↓sModel_compare_76, ↓sModel_compare_77, ↓sModel_compare_78, ↓sModel_compare_79, ↓sModel_compare_82, ↓sModel_compare_83, ↓sModel_compare_84, ↓sModel_compare_85, ↓sModel_compare_86, ↓sModel_compare_89, ↓sModel_compare_90, ↓sModel_compare_93, ↓sModel_compare_94, ↓sModel_compare_95, ↓sModel_compare_98, ↓sModel_compare_99, ↓sModel_compare_100, ↓sModel_compare_103, ↓sModel_compare_104, ↓sModel_compare_105, ↓sModel_compare_108, ↓sModel_compare_111, ↓sModel_compare_112, ↓sModel_compare_115, ↓sModel_compare_116, ↓sModel_compare_119, ↓sModel_compare_120, ↓sModel_compare_121, ↓sModel_compare_124, ↓sModel_compare_125, ↓sModel_compare_126, ↓sModel_compare_127, ↓sModel_compare_130, ↓sModel_compare_131, ↓sModel_compare_132, ↓sModel_compare_133, ↓sModel_compare_136, ↓sModel_compare_137, ↓sModel_compare_138, ↓sModel_compare_139, ↓sModel_compare_140, ↓sModel_compare_143, ↓sModel_compare_144, ↓sModel_compare_146, ↓sModel_compare_147, ↓sModel_compare_149, ↓sModel_compare_151, ↓sModel_compare_152, ↓sModel_compare_155, ↓sModel_compare_156, ↓sModel_compare_157, ↓sModel_compare_160, ↓sModel_compare_161, ↓sModel_compare_163, ↓sModel_compare_165, ↓sModel_compare_167, ↓sModel_compare_169, ↓sModel_compare_170, ↓sModel_compare_173, ↓sModel_compare_176, ↓sModel_compare_178, ↓sModel_compare_179, ↓sModel_compare_182, ↓sModel_compare_183, ↓sModel_compare_186, ↓sModel_compare_187, ↓sModel_compare_188, ↓sModel_compare_191, ↓sModel_compare_193, ↓sModel_compare_194, ↓sModel_compare_195, ↓rf_43_12, ↓sModel_compare_198, ↓sModel_compare_199, ↓sModel_compare_200, ↓sModel_compare_201, ↓sModel_compare_203, ↓sModel_compare_204, ↓sModel_compare_205, ↓sModel_compare_208, ↓sModel_compare_211, ↓sModel_compare_212, ↓sModel_compare_213, ↓rf_43_44, ↓sModel_compare_216, ↓sModel_compare_218, ↓sModel_compare_220, ↓sModel_compare_221, ↓sModel_compare_222, ↓sModel_compare_223, ↓sModel_compare_225, ↓sModel_compare_226, ↓sModel_compare_227, ↓sModel_compare_228, ↓sModel_compare_229, ↓sModel_compare_230, ↓sModel_compare_231, ↓sModel_compare_234, ↓sModel_compare_236, ↓sModel_compare_239, ↓sModel_compare_240, ↓sModel_compare_242, ↓sModel_compare_245, ↓sModel_compare_248, ↓sModel_compare_250, ↓sModel_compare_251, ↓sModel_compare_254, ↓sModel_compare_255, ↓rf_43_47, ↓sModel_compare_258, ↓sModel_compare_259, ↓sModel_compare_262, ↓sModel_compare_263, ↓sModel_compare_266, ↓sModel_compare_267, ↓sModel_compare_268, ↓sModel_compare_269, ↓sModel_compare_271, ↓sModel_compare_272, ↓sModel_compare_273, ↓sModel_compare_274, ↓sModel_compare_275, ↓sModel_compare_276, ↓sModel_compare_279, ↓sModel_compare_280, ↓sModel_compare_281, ↓sModel_compare_284, ↓sModel_compare_287, ↓sModel_compare_289, ↓sModel_compare_290, ↓sModel_compare_291, ↓sModel_compare_293, ↓sModel_compare_296, ↓sModel_compare_299, ↓sModel_compare_302, ↓ln_51, ↓ln_52, ↓ln_53, ↓ln_63, ↓ln_73, ↓ln_74, List.set_cons_zero, List.set_cons_succ, List.length_cons, List.length_nil, List.contains_cons, List.contains_nil, cat1, brP_d, true_and, and_true, not_false_eq_true, not_true_eq_false, if_true, if_false, Bool.or_false, Bool.false_or, Bool.or_true, Bool.true_or, Bool.false_eq_true, Bool.or_self, false_implies, true_implies, forall_const, and_self, implies_true, true_or, or_true, or_false, false_or, or_self, Classical.not_not, Int.reduceAdd, Int.reduceSub, Int.reduceMul, Int.reduceNeg, Int.reduceToNat, Int.reduceLT, Int.reduceLE, Int.reduceEq, Int.reduceNe, Int.reduceNatCast', Nat.reduceAdd, Nat.reduceSub, Nat.reduceLeDiff, Nat.reduceLT, Nat.reduceEqDiff, Nat.reduceBEq, reduceIte, nx_w, nx_c, up_n, up_s, up_f, ne_eq, Nat.reduceEqDiff, Option.some.injEq, Prod.mk.injEq, exists_eq_left', reduceCtorEq, ob_43, e4]
        rw [wr_id (x := (t : Int) + 1) (by omega) (by omega), wr_id (x := 4 * (r : Int)) (by omega) (by omega), wr_id (x := 4 * (r : Int) + t) (by omega) (by omega), show (4 * (r : Int) + t).toNat = 4 * r + t by omega, e52, wr_id (x := ((cmS g r t).2.2.1 : Int) + 1) (by omega) (by omega), show (((cmS g r t).2.2.1 : Nat) : Int).toNat = (cmS g r t).2.2.1 by omega]
        refine ⟨by omega, by omega, ?_⟩
        have := ih (t + 1) (up (up h 74 (cmS g r t).2.2.1 (g 18 (4 * r + t))) 43 46 ((cmS g r t).2.2.1 + 1)) (some (.inl (-1))) y7 (by push_cast; omega) (by push_cast; omega) (by rw [es]; exact f1) (by rw [es]; exact f2) (fun a a1 a2 => by rw [up_ne a1, up_ne a2]; exact f3 a a1 a2) (fun b hb => by rw [up_f hb, up_n (by decide)]; exact f3' b hb) (by
          rw [es, up_s]
          refine ⟨by push_cast; rfl, fun i hi => ?_⟩
          have hi' : i < (cmS g r t).2.2.1 + 1 := hi
          rw [up_n (by decide), up_a]
          show _ = if i = (cmS g r t).2.2.1 then g 18 (4 * r + t) else (cmS g r t).2.2.2 i
          by_cases z : i = (cmS g r t).2.2.1
          · rw [if_pos z, if_pos z]
          · rw [if_neg z, if_neg z]
            exact f4.2 i (by omega))
        rw [es] at this
        push_cast at this
        exact this
      · rw [if_neg c2]
        have es : cmS g r (t + 1) = (x + 1, (cmS g r t).2.1 - 1, (cmS g r t).2.2.1, (cmS g r t).2.2.2) := cmN_s hx c2
        have hxi : 0 ≤ x ∧ x < mN g - 1 := by
          rcases hx with z | ⟨q, a1, a2, a3, _⟩
          · exact absurd z.1 c2
          · omega
        have hx1 : ¬ x + 1 = -1 := by omega
        refine go [149] 400 (k := ?_)
        simp (config := {maxSteps := 1000000}) only [↓pI_c, ↓pR_c, ↓pJ_c, ↓pV_c, ↓popN_0, ↓popN_s, ↓lI_0, ↓lR_0, ↓lJ_0, ↓lI_s, ↓lR_s, ↓lJ_s, ↓okSt_0, ↓okSt_I, ↓okSt_R, ↓okSt_N, ↓okSt_s, ↓rtI_s, ↓rtV_n, ↓brP_t, ↓brP_f, ↓sModel_compare_0, ↓sModel_compare_1, ↓sModel_compare_4, ↓sModel_compare_5, ↓sModel_compare_6, ↓rf_43_45, ↓sModel_compare_9, ↓sModel_compare_10, ↓sModel_compare_11, ↓rf_43_46, ↓sModel_compare_14, ↓sModel_compare_15, ↓sModel_compare_16, ↓rf_43_48, ↓sModel_compare_19, ↓sModel_compare_20, ↓rf_43_29, ↓sModel_compare_23, ↓sModel_compare_26, ↓sModel_compare_27, ↓sModel_compare_30, ↓sModel_compare_32, ↓sModel_compare_35, ↓sModel_compare_36, ↓sModel_compare_37, ↓sModel_compare_38, ↓sModel_compare_39, ↓sModel_compare_40, ↓sModel_compare_41, ↓sModel_compare_42, ↓rf_43_10, ↓sModel_compare_45, ↓sModel_compare_48, ↓sModel_compare_49, ↓rf_43_11, ↓sModel_compare_52, ↓sModel_compare_53, ↓sModel_compare_54, ↓sModel_compare_55, ↓rf_43_28, ↓sModel_compare_58, ↓sModel_compare_59, ↓sModel_compare_60, ↓sModel_compare_63, ↓sModel_compare_64, ↓rf_43_13, ↓sModel_compare_67, ↓sModel_compare_68, ↓sModel_compare_69, ↓sModel_compare_70, ↓rf_43_26, ↓sModel_compare_73, ↓sModel_compare_74, ↓sModel_compare_75, ↓sModel_compare_76, ↓sModel_compare_77, ↓sModel_compare_78, ↓sModel_compare_79, ↓sModel_compare_82, ↓sModel_compare_83, ↓sModel_compare_84, ↓sModel_compare_85, ↓sModel_compare_86, ↓sModel_compare_89, ↓sModel_compare_90, ↓sModel_compare_93, ↓sModel_compare_94, ↓sModel_compare_95, ↓sModel_compare_98, ↓sModel_compare_99, ↓sModel_compare_100, ↓sModel_compare_103, ↓sModel_compare_104, ↓sModel_compare_105, ↓sModel_compare_108, ↓sModel_compare_111, ↓sModel_compare_112, ↓sModel_compare_115, ↓sModel_compare_116, ↓sModel_compare_119, ↓sModel_compare_120, ↓sModel_compare_121, ↓sModel_compare_124, ↓sModel_compare_125, ↓sModel_compare_126, ↓sModel_compare_127, ↓sModel_compare_130, ↓sModel_compare_131, ↓sModel_compare_132, ↓sModel_compare_133, ↓sModel_compare_136, ↓sModel_compare_137, ↓sModel_compare_138, ↓sModel_compare_139, ↓sModel_compare_140, ↓sModel_compare_143, ↓sModel_compare_144, ↓sModel_compare_146, ↓sModel_compare_147, ↓sModel_compare_149, ↓sModel_compare_151, ↓sModel_compare_152, ↓sModel_compare_155, ↓sModel_compare_156, ↓sModel_compare_157, ↓sModel_compare_160, ↓sModel_compare_161, ↓sModel_compare_163, ↓sModel_compare_165, ↓sModel_compare_167, ↓sModel_compare_169, ↓sModel_compare_170, ↓sModel_compare_173, ↓sModel_compare_176, ↓sModel_compare_178, ↓sModel_compare_179, ↓sModel_compare_182, ↓sModel_compare_183, ↓sModel_compare_186, ↓sModel_compare_187, ↓sModel_compare_188, ↓sModel_compare_191, ↓sModel_compare_193, ↓sModel_compare_194, ↓sModel_compare_195, ↓rf_43_12, ↓sModel_compare_198, ↓sModel_compare_199, ↓sModel_compare_200, ↓sModel_compare_201, ↓sModel_compare_203, ↓sModel_compare_204, ↓sModel_compare_205, ↓sModel_compare_208, ↓sModel_compare_211, ↓sModel_compare_212, ↓sModel_compare_213, ↓rf_43_44, ↓sModel_compare_216, ↓sModel_compare_218, ↓sModel_compare_220, ↓sModel_compare_221, ↓sModel_compare_222, ↓sModel_compare_223, ↓sModel_compare_225, ↓sModel_compare_226, ↓sModel_compare_227, ↓sModel_compare_228, ↓sModel_compare_229, ↓sModel_compare_230, ↓sModel_compare_231, ↓sModel_compare_234, ↓sModel_compare_236, ↓sModel_compare_239, ↓sModel_compare_240, ↓sModel_compare_242, ↓sModel_compare_245, ↓sModel_compare_248, ↓sModel_compare_250, ↓sModel_compare_251, ↓sModel_compare_254, ↓sModel_compare_255, ↓rf_43_47, ↓sModel_compare_258, ↓sModel_compare_259, ↓sModel_compare_262, ↓sModel_compare_263, ↓sModel_compare_266, ↓sModel_compare_267, ↓sModel_compare_268, ↓sModel_compare_269, ↓sModel_compare_271, ↓sModel_compare_272, ↓sModel_compare_273, ↓sModel_compare_274, ↓sModel_compare_275, ↓sModel_compare_276, ↓sModel_compare_279, ↓sModel_compare_280, ↓sModel_compare_281, ↓sModel_compare_284, ↓sModel_compare_287, ↓sModel_compare_289, ↓sModel_compare_290, ↓sModel_compare_291, ↓sModel_compare_293, ↓sModel_compare_296, ↓sModel_compare_299, ↓sModel_compare_302, ↓ln_51, ↓ln_52, ↓ln_53, ↓ln_63, ↓ln_73, ↓ln_74, List.set_cons_zero, List.set_cons_succ, List.length_cons, List.length_nil, List.contains_cons, List.contains_nil, cat1, brP_d, true_and, and_true, not_false_eq_true, not_true_eq_false, if_true, if_false, Bool.or_false, Bool.false_or, Bool.or_true, Bool.true_or, Bool.false_eq_true, Bool.or_self, false_implies, true_implies, forall_const, and_self, implies_true, true_or, or_true, or_false, false_or, or_self, Classical.not_not, Int.reduceAdd, Int.reduceSub, Int.reduceMul, Int.reduceNeg, Int.reduceToNat, Int.reduceLT, Int.reduceLE, Int.reduceEq, Int.reduceNe, Int.reduceNatCast', Nat.reduceAdd, Nat.reduceSub, Nat.reduceLeDiff, Nat.reduceLT, Nat.reduceEqDiff, Nat.reduceBEq, reduceIte, nx_w, nx_c, up_n, up_s, up_f, ne_eq, Nat.reduceEqDiff, Option.some.injEq, Prod.mk.injEq, exists_eq_left', reduceCtorEq, ob_43, hx1]
        rw [wr_id (x := (t : Int) + 1) (by omega) (by omega), wr_id (x := x + 1 + 1) (by omega) (by omega), wr_id (x := (cmS g r t).2.1 + -1) (by omega) (by omega)]
        have := ih (t + 1) h (some (.inl (x + 1))) y7 (by push_cast; omega) (by push_cast; omega) (by rw [es]; show 0 ≤ x + 1; omega) (by rw [es]; show x + 1 < mN g; omega) f3 f3' (by rw [es]; exact f4)
        rw [es] at this
        push_cast at this
        exact this
def qCM (g h h' : HP) : Prop := MS h h' ∧ qTyp g h' ∧ jdG g h' ∧ (∃ p x, verdR g (mN g) (fun i => mT g i) (mW g) (h' 43 29) (h' 43 30) p x) ∧ nrG g (h' 43 29) (h' 43 45) (h' 43 46) (h' 43 48) (h' 74)
theorem qTyp.cp {g h0 h : HP} (e : cpF h0 h) (hq : qTyp g h0) : qTyp g h := by
  refine ⟨(e.2 22 (by decide) (by decide) (by decide)).trans hq.1, fun k hk => ?_⟩
  rw [e.1 59 (by decide) (by decide) (by decide), e.1 60 (by decide) (by decide) (by decide), e.1 61 (by decide) (by decide) (by decide)]
  exact hq.2 k hk
set_option maxRecDepth 100000 in
set_option maxHeartbeats 4000000 in
theorem t_Model_compare (g h : HP) (hC : CI g) (hm : CM g h) : trV mModel_compare [.inr (.inr 43)] SH0 h (qCM g h) := by
  have hR := hC.2.2.1
  have h40 := hR.2.1
  have hn := mN_in hC.2.2.2.2
  have wrap : ∀ h1 h2, qJudge g h h1 → cpF h1 h2 → nrG g (h1 43 29) (h2 43 45) (h2 43 46) (h2 43 48) (h2 74) → qCM g h h2 := by
    rintro h1 h2 ⟨q1, q2, q3, q4, p, x, q5⟩ c n
    refine ⟨q1.tr (MS.cp c), q2.cp c, jdG.cp c ⟨q3, q4⟩, ⟨p, x, ?_⟩, ?_⟩
    · rw [c.2 29 (by decide) (by decide) (by decide), c.2 30 (by decide) (by decide) (by decide)]
      exact q5
    · rw [c.2 29 (by decide) (by decide) (by decide)]
      exact n
  refine startV [some (.inr (.inr 43)), none, none, none, none, none, none, none] mModel_compare_c (go [40] 400 (k := ?_))
  simp (config := {maxSteps := 1000000}) only [↓pI_c, ↓pR_c, ↓pJ_c, ↓pV_c, ↓popN_0, ↓popN_s, ↓lI_0, ↓lR_0, ↓lJ_0, ↓lI_s, ↓lR_s, ↓lJ_s, ↓okSt_0, ↓okSt_I, ↓okSt_R, ↓okSt_N, ↓okSt_s, ↓rtI_s, ↓rtV_n, ↓brP_t, ↓brP_f, ↓sModel_compare_0, ↓sModel_compare_1, ↓sModel_compare_4, ↓sModel_compare_5, ↓sModel_compare_6, ↓rf_43_45, ↓sModel_compare_9, ↓sModel_compare_10, ↓sModel_compare_11, ↓rf_43_46, ↓sModel_compare_14, ↓sModel_compare_15, ↓sModel_compare_16, ↓rf_43_48, ↓sModel_compare_19, ↓sModel_compare_20, ↓rf_43_29, ↓sModel_compare_23, ↓sModel_compare_26, ↓sModel_compare_27, ↓sModel_compare_30, ↓sModel_compare_32, ↓sModel_compare_35, ↓sModel_compare_36, ↓sModel_compare_37, ↓sModel_compare_38, ↓sModel_compare_39, ↓sModel_compare_40, ↓sModel_compare_41, ↓sModel_compare_42, ↓rf_43_10, ↓sModel_compare_45, ↓sModel_compare_48, ↓sModel_compare_49, ↓rf_43_11, ↓sModel_compare_52, ↓sModel_compare_53, ↓sModel_compare_54, ↓sModel_compare_55, ↓rf_43_28, ↓sModel_compare_58, ↓sModel_compare_59, ↓sModel_compare_60, ↓sModel_compare_63, ↓sModel_compare_64, ↓rf_43_13, ↓sModel_compare_67, ↓sModel_compare_68, ↓sModel_compare_69, ↓sModel_compare_70, ↓rf_43_26, ↓sModel_compare_73, ↓sModel_compare_74, ↓sModel_compare_75, ↓sModel_compare_76, ↓sModel_compare_77, ↓sModel_compare_78, ↓sModel_compare_79, ↓sModel_compare_82, ↓sModel_compare_83, ↓sModel_compare_84, ↓sModel_compare_85, ↓sModel_compare_86, ↓sModel_compare_89, ↓sModel_compare_90, ↓sModel_compare_93, ↓sModel_compare_94, ↓sModel_compare_95, ↓sModel_compare_98, ↓sModel_compare_99, ↓sModel_compare_100, ↓sModel_compare_103, ↓sModel_compare_104, ↓sModel_compare_105, ↓sModel_compare_108, ↓sModel_compare_111, ↓sModel_compare_112, ↓sModel_compare_115, ↓sModel_compare_116, ↓sModel_compare_119, ↓sModel_compare_120, ↓sModel_compare_121, ↓sModel_compare_124, ↓sModel_compare_125, ↓sModel_compare_126, ↓sModel_compare_127, ↓sModel_compare_130, ↓sModel_compare_131, ↓sModel_compare_132, ↓sModel_compare_133, ↓sModel_compare_136, ↓sModel_compare_137, ↓sModel_compare_138, ↓sModel_compare_139, ↓sModel_compare_140, ↓sModel_compare_143, ↓sModel_compare_144, ↓sModel_compare_146, ↓sModel_compare_147, ↓sModel_compare_149, ↓sModel_compare_151, ↓sModel_compare_152, ↓sModel_compare_155, ↓sModel_compare_156, ↓sModel_compare_157, ↓sModel_compare_160, ↓sModel_compare_161, ↓sModel_compare_163, ↓sModel_compare_165, ↓sModel_compare_167, ↓sModel_compare_169, ↓sModel_compare_170, ↓sModel_compare_173, ↓sModel_compare_176, ↓sModel_compare_178, ↓sModel_compare_179, ↓sModel_compare_182, ↓sModel_compare_183, ↓sModel_compare_186, ↓sModel_compare_187, ↓sModel_compare_188, ↓sModel_compare_191, ↓sModel_compare_193, ↓sModel_compare_194, ↓sModel_compare_195, ↓rf_43_12, ↓sModel_compare_198, ↓sModel_compare_199, ↓sModel_compare_200, ↓sModel_compare_201, ↓sModel_compare_203, ↓sModel_compare_204, ↓sModel_compare_205, ↓sModel_compare_208, ↓sModel_compare_211, ↓sModel_compare_212, ↓sModel_compare_213, ↓rf_43_44, ↓sModel_compare_216, ↓sModel_compare_218, ↓sModel_compare_220, ↓sModel_compare_221, ↓sModel_compare_222, ↓sModel_compare_223, ↓sModel_compare_225, ↓sModel_compare_226, ↓sModel_compare_227, ↓sModel_compare_228, ↓sModel_compare_229, ↓sModel_compare_230, ↓sModel_compare_231, ↓sModel_compare_234, ↓sModel_compare_236, ↓sModel_compare_239, ↓sModel_compare_240, ↓sModel_compare_242, ↓sModel_compare_245, ↓sModel_compare_248, ↓sModel_compare_250, ↓sModel_compare_251, ↓sModel_compare_254, ↓sModel_compare_255, ↓rf_43_47, ↓sModel_compare_258, ↓sModel_compare_259, ↓sModel_compare_262, ↓sModel_compare_263, ↓sModel_compare_266, ↓sModel_compare_267, ↓sModel_compare_268, ↓sModel_compare_269, ↓sModel_compare_271, ↓sModel_compare_272, ↓sModel_compare_273, ↓sModel_compare_274, ↓sModel_compare_275, ↓sModel_compare_276, ↓sModel_compare_279, ↓sModel_compare_280, ↓sModel_compare_281, ↓sModel_compare_284, ↓sModel_compare_287, ↓sModel_compare_289, ↓sModel_compare_290, ↓sModel_compare_291, ↓sModel_compare_293, ↓sModel_compare_296, ↓sModel_compare_299, ↓sModel_compare_302, ↓ln_51, ↓ln_52, ↓ln_53, ↓ln_63, ↓ln_73, ↓ln_74, List.set_cons_zero, List.set_cons_succ, List.length_cons, List.length_nil, List.contains_cons, List.contains_nil, cat1, brP_d, true_and, and_true, not_false_eq_true, not_true_eq_false, if_true, if_false, Bool.or_false, Bool.false_or, Bool.or_true, Bool.true_or, Bool.false_eq_true, Bool.or_self, false_implies, true_implies, forall_const, and_self, implies_true, true_or, or_true, or_false, false_or, or_self, Classical.not_not, Int.reduceAdd, Int.reduceSub, Int.reduceMul, Int.reduceNeg, Int.reduceToNat, Int.reduceLT, Int.reduceLE, Int.reduceEq, Int.reduceNe, Int.reduceNatCast', Nat.reduceAdd, Nat.reduceSub, Nat.reduceLeDiff, Nat.reduceLT, Nat.reduceEqDiff, Nat.reduceBEq, reduceIte, nx_w, nx_c, up_n, up_s, up_f, ne_eq, Nat.reduceEqDiff, Option.some.injEq, Prod.mk.injEq, exists_eq_left', reduceCtorEq, ob_43]
  refine trV_use (t_Model_judge g h hC hm) ?_
  intro h1 qj
  have f0 : cpF h1 (up (up (up h1 43 45 (-1)) 43 46 0) 43 48 0) := cpFu (cpFu (cpFu cpF.rf (Or.inl rfl)) (Or.inr (Or.inl rfl))) (Or.inr (Or.inr rfl))
  have e3 : up (up (up h1 43 45 (-1)) 43 46 0) 43 48 0 43 45 = -1 := by rw [up_f (by decide), up_f (by decide), up_s]
  have e4 : up (up (up h1 43 45 (-1)) 43 46 0) 43 48 0 43 46 = 0 := by rw [up_f (by decide), up_s]
  have e5 : up (up (up h1 43 45 (-1)) 43 46 0) 43 48 0 43 48 = 0 := up_s
  obtain ⟨h0, hh0⟩ : ∃ h0, up (up (up h1 43 45 (-1)) 43 46 0) 43 48 0 = h0 := ⟨_, rfl⟩
  rw [hh0] at f0 e3 e4 e5 ⊢
  have hqj := qj
  obtain ⟨q1, q2, q3, q4, p, x, q5⟩ := hqj
  have hm0 : CM g h0 := (hm.ms q1).ms (MS.cp f0)
  have hj0 : jdG g h0 := jdG.cp f0 ⟨q3, q4⟩
  have no : ¬ (h1 43 29 = 0 ∨ h1 43 29 = 6) → qCM g h h0 := fun z => wrap h1 h0 qj f0 (Or.inl ⟨z, e3, e4, e5⟩)
  have yes : (h1 43 29 = 0 ∨ h1 43 29 = 6) → Wn Z4 mModel_compare SH0 40 [some (.inr (.inr 43)), some (.inl 0), some (.inl 0), none, none, none, none, none] [] h0 (rtV (qCM g h)) := by
    intro hv
    have ha := (verd_06 hC.2.1 q5 hv).1
    have hpos := ha.1
    refine c1_Model_compare g h0 hC hm0 hj0 ha _ ?_ ((g 15 3).toNat + 1) 0 0 h0 _ (by have := hR.1; omega) (by omega) hR.1 cpF.rf rfl rfl (Or.inl ⟨e3, fun i hi => by omega⟩)
    intro h2 l r x3 a1 a2 a3 a4
    refine go [149] 400 (k := ?_)
    simp (config := {maxSteps := 1000000}) only [↓pI_c, ↓pR_c, ↓pJ_c, ↓pV_c, ↓popN_0, ↓popN_s, ↓lI_0, ↓lR_0, ↓lJ_0, ↓lI_s, ↓lR_s, ↓lJ_s, ↓okSt_0, ↓okSt_I, ↓okSt_R, ↓okSt_N, ↓okSt_s, ↓rtI_s, ↓rtV_n, ↓brP_t, ↓brP_f, ↓sModel_compare_0, ↓sModel_compare_1, ↓sModel_compare_4, ↓sModel_compare_5, ↓sModel_compare_6, ↓rf_43_45, ↓sModel_compare_9, ↓sModel_compare_10, ↓sModel_compare_11, ↓rf_43_46, ↓sModel_compare_14, ↓sModel_compare_15, ↓sModel_compare_16, ↓rf_43_48, ↓sModel_compare_19, ↓sModel_compare_20, ↓rf_43_29, ↓sModel_compare_23, ↓sModel_compare_26, ↓sModel_compare_27, ↓sModel_compare_30, ↓sModel_compare_32, ↓sModel_compare_35, ↓sModel_compare_36, ↓sModel_compare_37, ↓sModel_compare_38, ↓sModel_compare_39, ↓sModel_compare_40, ↓sModel_compare_41, ↓sModel_compare_42, ↓rf_43_10, ↓sModel_compare_45, ↓sModel_compare_48, ↓sModel_compare_49, ↓rf_43_11, ↓sModel_compare_52, ↓sModel_compare_53, ↓sModel_compare_54, ↓sModel_compare_55, ↓rf_43_28, ↓sModel_compare_58, ↓sModel_compare_59, ↓sModel_compare_60, ↓sModel_compare_63, ↓sModel_compare_64, ↓rf_43_13, ↓sModel_compare_67, ↓sModel_compare_68, ↓sModel_compare_69, ↓sModel_compare_70, ↓rf_43_26, ↓sModel_compare_73, ↓sModel_compare_74, ↓sModel_compare_75, ↓sModel_compare_76, ↓sModel_compare_77, ↓sModel_compare_78, ↓sModel_compare_79, ↓sModel_compare_82, ↓sModel_compare_83, ↓sModel_compare_84, ↓sModel_compare_85, ↓sModel_compare_86, ↓sModel_compare_89, ↓sModel_compare_90, ↓sModel_compare_93, ↓sModel_compare_94, ↓sModel_compare_95, ↓sModel_compare_98, ↓sModel_compare_99, ↓sModel_compare_100, ↓sModel_compare_103, ↓sModel_compare_104, ↓sModel_compare_105, ↓sModel_compare_108, ↓sModel_compare_111, ↓sModel_compare_112, ↓sModel_compare_115, ↓sModel_compare_116, ↓sModel_compare_119, ↓sModel_compare_120, ↓sModel_compare_121, ↓sModel_compare_124, ↓sModel_compare_125, ↓sModel_compare_126, ↓sModel_compare_127, ↓sModel_compare_130, ↓sModel_compare_131, ↓sModel_compare_132, ↓sModel_compare_133, ↓sModel_compare_136, ↓sModel_compare_137, ↓sModel_compare_138, ↓sModel_compare_139, ↓sModel_compare_140, ↓sModel_compare_143, ↓sModel_compare_144, ↓sModel_compare_146, ↓sModel_compare_147, ↓sModel_compare_149, ↓sModel_compare_151, ↓sModel_compare_152, ↓sModel_compare_155, ↓sModel_compare_156, ↓sModel_compare_157, ↓sModel_compare_160, ↓sModel_compare_161, ↓sModel_compare_163, ↓sModel_compare_165, ↓sModel_compare_167, ↓sModel_compare_169, ↓sModel_compare_170, ↓sModel_compare_173, ↓sModel_compare_176, ↓sModel_compare_178, ↓sModel_compare_179, ↓sModel_compare_182, ↓sModel_compare_183, ↓sModel_compare_186, ↓sModel_compare_187, ↓sModel_compare_188, ↓sModel_compare_191, ↓sModel_compare_193, ↓sModel_compare_194, ↓sModel_compare_195, ↓rf_43_12, ↓sModel_compare_198, ↓sModel_compare_199, ↓sModel_compare_200, ↓sModel_compare_201, ↓sModel_compare_203, ↓sModel_compare_204, ↓sModel_compare_205, ↓sModel_compare_208, ↓sModel_compare_211, ↓sModel_compare_212, ↓sModel_compare_213, ↓rf_43_44, ↓sModel_compare_216, ↓sModel_compare_218, ↓sModel_compare_220, ↓sModel_compare_221, ↓sModel_compare_222, ↓sModel_compare_223, ↓sModel_compare_225, ↓sModel_compare_226, ↓sModel_compare_227, ↓sModel_compare_228, ↓sModel_compare_229, ↓sModel_compare_230, ↓sModel_compare_231, ↓sModel_compare_234, ↓sModel_compare_236, ↓sModel_compare_239, ↓sModel_compare_240, ↓sModel_compare_242, ↓sModel_compare_245, ↓sModel_compare_248, ↓sModel_compare_250, ↓sModel_compare_251, ↓sModel_compare_254, ↓sModel_compare_255, ↓rf_43_47, ↓sModel_compare_258, ↓sModel_compare_259, ↓sModel_compare_262, ↓sModel_compare_263, ↓sModel_compare_266, ↓sModel_compare_267, ↓sModel_compare_268, ↓sModel_compare_269, ↓sModel_compare_271, ↓sModel_compare_272, ↓sModel_compare_273, ↓sModel_compare_274, ↓sModel_compare_275, ↓sModel_compare_276, ↓sModel_compare_279, ↓sModel_compare_280, ↓sModel_compare_281, ↓sModel_compare_284, ↓sModel_compare_287, ↓sModel_compare_289, ↓sModel_compare_290, ↓sModel_compare_291, ↓sModel_compare_293, ↓sModel_compare_296, ↓sModel_compare_299, ↓sModel_compare_302, ↓ln_51, ↓ln_52, ↓ln_53, ↓ln_63, ↓ln_73, ↓ln_74, List.set_cons_zero, List.set_cons_succ, List.length_cons, List.length_nil, List.contains_cons, List.contains_nil, cat1, brP_d, true_and, and_true, not_false_eq_true, not_true_eq_false, if_true, if_false, Bool.or_false, Bool.false_or, Bool.or_true, Bool.true_or, Bool.false_eq_true, Bool.or_self, false_implies, true_implies, forall_const, and_self, implies_true, true_or, or_true, or_false, false_or, or_self, Classical.not_not, Int.reduceAdd, Int.reduceSub, Int.reduceMul, Int.reduceNeg, Int.reduceToNat, Int.reduceLT, Int.reduceLE, Int.reduceEq, Int.reduceNe, Int.reduceNatCast', Nat.reduceAdd, Nat.reduceSub, Nat.reduceLeDiff, Nat.reduceLT, Nat.reduceEqDiff, Nat.reduceBEq, reduceIte, nx_w, nx_c, up_n, up_s, up_f, ne_eq, Nat.reduceEqDiff, Option.some.injEq, Prod.mk.injEq, exists_eq_left', reduceCtorEq, ob_43]
    have f2 := f0.tr a1
    refine ⟨fun c1 => ?_, fun c1 => ?_⟩
    · have hrr : ∃ r : Nat, (r : Int) < g 15 3 ∧ h2 43 45 = r := by
        rcases a4 with z | ⟨q, q1, q2, _⟩
        · exact absurd z.1 c1
        · exact ⟨q, q1, q2⟩
      obtain ⟨r, r1, r2⟩ := hrr
      have l4 := hR.2.2.2 r (by omega)
      have hm2 : CM g h2 := hm0.ms (MS.cp a1)
      have hj2 : jdG g h2 := hj0.cp a1
      rw [r2]
      refine trI_use (t_Model_pairs g h2 hC hm2 hj2 ha r r1) ?_
      rintro y h3 ⟨b1, rfl⟩
      have f3 := f2.tr (cpF.mk b1)
      have e26 : h3 43 26 = mN g := by rw [b1.1 43 (by decide)]; exact hj2.1
      have ic : 0 ≤ clG g r 0 0 ∧ clG g r 0 0 ≤ (g 17 r).toNat := cl_in
      rw [e26, wr_id (x := mN g - 1) (by omega) (by omega), wr_id (x := mN g - 1 - clG g r 0 0) (by omega) (by omega)]
      have f4 : cpF h1 (up h3 43 48 (mN g - 1 - clG g r 0 0)) := cpFu f3 (Or.inr (Or.inr rfl))
      have e46 : up h3 43 48 (mN g - 1 - clG g r 0 0) 43 46 = 0 := by rw [up_f (by decide), b1.1 43 (by decide), a2]; exact e4
      have := c2_Model_compare g (up h3 43 48 (mN g - 1 - clG g r 0 0)) hC ((hm.ms q1).ms (MS.cp f4)) (jdG.cp f4 ⟨q3, q4⟩) ha r r1 (by
        intro t' w' z1 z2 z3
        rw [up_n (by decide)]
        exact b1.2 t' w' z1 z2 z3 (by omega)) l ((g 17 r).toNat + 1) 0 _ none none (by push_cast; omega) (by push_cast; omega) (Int.le_refl _) hpos (fun _ _ _ => rfl) (fun _ _ => rfl) ⟨e46, fun i hi => absurd hi (Nat.not_lt_zero i)⟩
      refine Wt.mono ?_ this
      rintro v sh' h5 ⟨rfl, hv'⟩
      refine ⟨rfl, ?_⟩
      obtain ⟨rfl, k1, k2, k3⟩ := rtV_ex hv'
      have f5 : cpF h1 h5 := f4.tr ⟨fun a z1 _ z3 => k1 a z1 z3, fun b _ z2 _ => k2 b z2⟩
      refine wrap h1 h5 qj f5 (Or.inr ⟨hv, ?_, Or.inr ⟨r, ?_, r1, ?_, k3⟩⟩)
      · rw [k2 45 (by decide), up_f (by decide), b1.1 43 (by decide)]
        exact ⟨l, a4⟩
      · rw [k2 45 (by decide), up_f (by decide), b1.1 43 (by decide)]
        exact r2
      · rw [k2 48 (by decide), up_s]
    · exact wrap h1 h2 qj f2 (Or.inr ⟨hv, ⟨l, a4⟩, Or.inl ⟨c1, a2.trans e4, a3.trans e5⟩⟩)
  exact ⟨fun c1 => yes (Or.inl c1), fun c1 => ⟨fun c2 => yes (Or.inr c2), fun c2 => no (by omega)⟩⟩
def sMiss (i : Int) (g : HP) (r : Int) : Prop := ∃ v c p x rl m ex f, verdR g (mN g) (fun i => mT g i) (mW g) v c p x ∧ nrG g v rl m ex f ∧ ((0 ≤ i ∧ i < m ∧ r = f i.toNat) ∨ (¬ (0 ≤ i ∧ i < m) ∧ r = -2))
theorem sMiss_uni {g : HP} {i r r' : Int} (h : sMiss i g r) (h' : sMiss i g r') : r = r' := by
  obtain ⟨v, c, p, x, rl, m, ex, f, a1, a2, a3⟩ := h
  obtain ⟨v', c', p', x', rl', m', ex', f', b1, b2, b3⟩ := h'
  have e := (verdR_uni a1 b1).1
  subst e
  obtain ⟨_, em, _, ea⟩ := nrG_uni a2 b2
  subst em
  rcases a3 with ⟨c1, c2, c3⟩ | ⟨c1, c2⟩
  · rcases b3 with ⟨d1, d2, d3⟩ | ⟨d1, d2⟩
    · have := ea i.toNat (by omega)
      omega
    · omega
  · omega
set_option maxRecDepth 100000 in
set_option maxHeartbeats 4000000 in
theorem t_Help_missing (h : HP) (hC : CI h) (i : Int) : trI mHelp_missing [.inr (.inr 0), .inl i] SH0 h (roC (sMiss i) h) := by
  refine startI [some (.inr (.inr 0)), some (.inl i)] mHelp_missing_c (go [9999] 400 (k := ?_))
  simp (config := {maxSteps := 1000000}) only [↓pI_c, ↓pR_c, ↓pJ_c, ↓pV_c, ↓popN_0, ↓popN_s, ↓lI_0, ↓lR_0, ↓lJ_0, ↓lI_s, ↓lR_s, ↓lJ_s, ↓okSt_0, ↓okSt_I, ↓okSt_R, ↓okSt_N, ↓okSt_s, ↓rtI_s, ↓rtV_n, ↓brP_t, ↓brP_f, ↓sHelp_missing_0, ↓sHelp_missing_1, ↓rf_0_8, ↓sHelp_missing_4, ↓sHelp_missing_7, ↓sHelp_missing_8, ↓rf_0_10, ↓sHelp_missing_11, ↓sHelp_missing_14, ↓sHelp_missing_15, ↓sHelp_missing_18, ↓sHelp_missing_19, ↓sHelp_missing_20, ↓sHelp_missing_23, ↓rf_33_4, ↓sHelp_missing_26, ↓sHelp_missing_29, ↓sHelp_missing_31, ↓sHelp_missing_34, ↓sHelp_missing_35, ↓sHelp_missing_38, ↓rf_33_1, ↓sHelp_missing_41, ↓sHelp_missing_42, ↓sHelp_missing_43, ↓ln_34, List.set_cons_zero, List.set_cons_succ, List.length_cons, List.length_nil, List.contains_cons, List.contains_nil, cat1, brP_d, true_and, and_true, not_false_eq_true, not_true_eq_false, if_true, if_false, Bool.or_false, Bool.false_or, Bool.or_true, Bool.true_or, Bool.false_eq_true, Bool.or_self, false_implies, true_implies, forall_const, and_self, implies_true, true_or, or_true, or_false, false_or, or_self, Classical.not_not, Int.reduceAdd, Int.reduceSub, Int.reduceMul, Int.reduceNeg, Int.reduceToNat, Int.reduceLT, Int.reduceLE, Int.reduceEq, Int.reduceNe, Int.reduceNatCast', Nat.reduceAdd, Nat.reduceSub, Nat.reduceLeDiff, Nat.reduceLT, Nat.reduceEqDiff, Nat.reduceBEq, reduceIte, nx_w, nx_c, up_n, up_s, up_f, ne_eq, Nat.reduceEqDiff, Option.some.injEq, Prod.mk.injEq, exists_eq_left', reduceCtorEq, ob_24, ob_33]
  refine trV_use (t_Read_update h hC) ?_
  intro h1 q1
  have k1 := KF.rd q1.1
  refine trV_use (t_Near_update h h1 hC k1 (rd_upd q1)) ?_
  rintro h2 ⟨p1, p2⟩
  have hin := nrG_in hC.2.2.1 p2
  have k2 := k1.tr p1.kf
  have mk : ∀ r, ((0 ≤ i ∧ i < h2 33 4 ∧ r = h2 34 i.toNat) ∨ (¬ (0 ≤ i ∧ i < h2 33 4) ∧ r = -2)) → roC (sMiss i) h r h2 := fun r hr => ⟨k2, _, _, _, _, _, _, _, _, q1.2.2.2, p2, hr⟩
  refine ⟨fun c1 => ?_, fun c1 => ⟨fun c2 => ?_, fun c2 => ?_⟩⟩
  all_goals first
    | exact mk _ (by omega)
    | exact ⟨by omega, mk _ (by omega)⟩
set_option maxRecDepth 100000 in
set_option maxHeartbeats 4000000 in
theorem t_Model_missing (g h : HP) (hC : CI g) (hm : CM g h) (i : Int) : trI mModel_missing [.inr (.inr 43), .inl i] SH0 h (roM (sMiss i g) h) := by
  refine startI [some (.inr (.inr 43)), some (.inl i)] mModel_missing_c (go [9999] 400 (k := ?_))
  simp (config := {maxSteps := 1000000}) only [↓pI_c, ↓pR_c, ↓pJ_c, ↓pV_c, ↓popN_0, ↓popN_s, ↓lI_0, ↓lR_0, ↓lJ_0, ↓lI_s, ↓lR_s, ↓lJ_s, ↓okSt_0, ↓okSt_I, ↓okSt_R, ↓okSt_N, ↓okSt_s, ↓rtI_s, ↓rtV_n, ↓brP_t, ↓brP_f, ↓sModel_missing_0, ↓sModel_missing_1, ↓sModel_missing_2, ↓rf_43_0, ↓sModel_missing_5, ↓sModel_missing_6, ↓sModel_missing_9, ↓sModel_missing_10, ↓sModel_missing_11, ↓sModel_missing_12, ↓rf_43_46, ↓sModel_missing_15, ↓sModel_missing_16, ↓sModel_missing_17, ↓sModel_missing_20, ↓sModel_missing_23, ↓sModel_missing_24, ↓rf_43_47, ↓sModel_missing_27, ↓sModel_missing_28, ↓sModel_missing_29, ↓sModel_missing_32, ↓sModel_missing_34, ↓ln_74, List.set_cons_zero, List.set_cons_succ, List.length_cons, List.length_nil, List.contains_cons, List.contains_nil, cat1, brP_d, true_and, and_true, not_false_eq_true, not_true_eq_false, if_true, if_false, Bool.or_false, Bool.false_or, Bool.or_true, Bool.true_or, Bool.false_eq_true, Bool.or_self, false_implies, true_implies, forall_const, and_self, implies_true, true_or, or_true, or_false, false_or, or_self, Classical.not_not, Int.reduceAdd, Int.reduceSub, Int.reduceMul, Int.reduceNeg, Int.reduceToNat, Int.reduceLT, Int.reduceLE, Int.reduceEq, Int.reduceNe, Int.reduceNatCast', Nat.reduceAdd, Nat.reduceSub, Nat.reduceLeDiff, Nat.reduceLT, Nat.reduceEqDiff, Nat.reduceBEq, reduceIte, nx_w, nx_c, up_n, up_s, up_f, ne_eq, Nat.reduceEqDiff, Option.some.injEq, Prod.mk.injEq, exists_eq_left', reduceCtorEq, ob_43]
  refine trV_use (t_Model_compare g _ hC (hm.ms msu0)) ?_
  rintro h1 ⟨q1, q2, q3, ⟨p, x, q4⟩, q5⟩
  have hin := nrG_in hC.2.2.1 q5
  have hms : MS h h1 := msu0.tr q1
  rw [wr_id (x := h1 43 46 - 1) (by omega) (by omega)]
  have mk : ∀ r, ((0 ≤ i ∧ i < h1 43 46 ∧ r = h1 74 i.toNat) ∨ (¬ (0 ≤ i ∧ i < h1 43 46) ∧ r = -2)) → roM (sMiss i g) h r h1 := fun r hr => ⟨hms, _, _, _, _, _, _, _, _, q4, q5, hr⟩
  refine use_in (fun e1 => ?_) (fun e1 => ?_)
  · simp only [one_ne, not_false_eq_true, true_implies, false_implies, true_and]
    exact ⟨by omega, mk _ (by omega)⟩
  · simp only [not_true_eq_false, true_implies, false_implies, and_true]
    exact mk _ (by omega)
