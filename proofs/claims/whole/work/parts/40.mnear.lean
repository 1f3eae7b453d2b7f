/-! the reference's nearest -/
set_option maxRecDepth 100000 in
set_option maxHeartbeats 4000000 in
theorem c_Model_nearest (h0 : HP) (a n w q far : Int) (P : Option AV → HP → Prop) (hq : 0 ≤ q ∧ q < 90) (hX : ∀ x6, Wn Z4 mModel_nearest SH0 8 [some (.inr (.inr 43)), some (.inl a), some (.inl n), some (.inl w), some (.inl (q + 1)), some (.inl far), x6] [] (cpy h0 64 65 0 0 1053) P) : ∀ (d : Nat) (i : Int), 1053 - i < d → 0 ≤ i → i ≤ 1053 → Wn Z4 mModel_nearest SH0 87 [some (.inr (.inr 43)), some (.inl a), some (.inl n), some (.inl w), some (.inl q), some (.inl far), some (.inl i)] [] (cpy h0 64 65 0 0 i.toNat) P := by
  have e64 : ∀ n b, cpy h0 64 65 0 0 n 64 b = h0 64 b := fun n b => by rw [cpy_ne (by decide)]
  intro d
  induction d with
  | zero => intro i h1 h2 h3; omega
  | succ d ih =>
    intro i h1 h2 h3
    refine go [87,8] 400 (k := ?_)
    simp (config := {maxSteps := 1000000}) only [↓pI_c, ↓pR_c, ↓pJ_c, ↓pV_c, ↓popN_0, ↓popN_s, ↓lI_0, ↓lR_0, ↓lJ_0, ↓lI_s, ↓lR_s, ↓lJ_s, ↓okSt_0, ↓okSt_I, ↓okSt_R, ↓okSt_N, ↓okSt_s, ↓rtI_s, ↓rtV_n, ↓brP_t, ↓brP_f, ↓sModel_nearest_0, ↓sModel_nearest_1, ↓sModel_nearest_2, ↓rf_43_33, ↓sModel_nearest_5, ↓sModel_nearest_6, ↓sModel_nearest_8, ↓sModel_nearest_10, ↓sModel_nearest_11, ↓rf_43_6, ↓sModel_nearest_14, ↓sModel_nearest_17, ↓sModel_nearest_18, ↓rf_43_9, ↓sModel_nearest_21, ↓sModel_nearest_23, ↓sModel_nearest_24, ↓sModel_nearest_25, ↓sModel_nearest_28, ↓sModel_nearest_29, ↓sModel_nearest_30, ↓sModel_nearest_31, ↓sModel_nearest_33, ↓sModel_nearest_36, ↓sModel_nearest_37, ↓rf_43_31, ↓sModel_nearest_40, ↓sModel_nearest_42, ↓sModel_nearest_43, ↓sModel_nearest_44, ↓sModel_nearest_45, ↓rf_43_8, ↓sModel_nearest_48, ↓sModel_nearest_50, ↓sModel_nearest_51, ↓sModel_nearest_52, ↓sModel_nearest_53, ↓sModel_nearest_55, ↓sModel_nearest_56, ↓sModel_nearest_59, ↓sModel_nearest_60, ↓sModel_nearest_63, ↓sModel_nearest_65, ↓sModel_nearest_66, ↓rf_43_34, ↓sModel_nearest_69, ↓sModel_nearest_72, ↓sModel_nearest_73, ↓sModel_nearest_75, ↓sModel_nearest_78, ↓sModel_nearest_79, ↓sModel_nearest_81, ↓sModel_nearest_84, ↓sModel_nearest_85, ↓sModel_nearest_87, ↓sModel_nearest_89, ↓sModel_nearest_92, ↓sModel_nearest_95, ↓sModel_nearest_96, ↓rf_43_32, ↓sModel_nearest_99, ↓sModel_nearest_101, ↓sModel_nearest_102, ↓sModel_nearest_105, ↓sModel_nearest_107, ↓sModel_nearest_108, ↓sModel_nearest_109, ↓sModel_nearest_112, ↓sModel_nearest_115, ↓sModel_nearest_118, ↓sModel_nearest_121, ↓ln_49, ↓ln_50, ↓ln_64, ↓ln_65, List.set_cons_zero, List.set_cons_succ, List.length_cons, List.length_nil, List.contains_cons, List.contains_nil, cat1, brP_d, true_and, and_true, not_false_eq_true, not_true_eq_false, if_true, if_false, Bool.or_false, Bool.false_or, Bool.or_true, Bool.true_or, Bool.false_eq_true, Bool.or_self, false_implies, true_implies, forall_const, and_self, implies_true, true_or, or_true, or_false, false_or, or_self, Classical.not_not, Int.reduceAdd, Int.reduceSub, Int.reduceMul, Int.reduceNeg, Int.reduceToNat, Int.reduceLT, Int.reduceLE, Int.reduceEq, Int.reduceNe, Int.reduceNatCast', Nat.reduceAdd, Nat.reduceSub, Nat.reduceLeDiff, Nat.reduceLT, Nat.reduceEqDiff, Nat.reduceBEq, reduceIte, nx_w, nx_c, up_n, up_s, up_f, ne_eq, Nat.reduceEqDiff, Option.some.injEq, Prod.mk.injEq, exists_eq_left', reduceCtorEq, ob_43, e64]
    refine ⟨fun h5 => ?_, fun h5 => ⟨by omega, by omega, ?_⟩⟩
    · rw [wr_id (x := q + 1) (by omega) (by omega), show i = 1053 by omega]
      exact hX _
    · rw [wr_id (x := i + 1) (by omega) (by omega)]
      have := ih (i + 1) (by omega) (by omega) (by omega)
      rw [show (i + 1).toNat = i.toNat + 1 by omega, ← cpy_s, Nat.zero_add] at this
      exact this
def nrF (h0 h : HP) : Prop := (∀ a, a ≠ 43 → a ≠ 64 → a ≠ 65 → h a = h0 a) ∧ ∀ b, b ≠ 33 → b ≠ 34 → h 43 b = h0 43 b
theorem MS.nr {h0 h : HP} (e : nrF h0 h) : MS h0 h := ⟨fun k hk => e.1 k (by omega) (by omega) (by omega), fun k j hp => by
  by_cases z : k = 43
  · subst z
    exact e.2 j (by rintro rfl; cases hp) (by rintro rfl; cases hp)
  · rw [e.1 k z (by rintro rfl; cases hp) (by rintro rfl; cases hp)]⟩
def tbM (g h : HP) (k : Nat) : Prop := ¬ h 43 33 = -1 → ∀ i j : Nat, (i : Int) ≤ g 23 k → (j : Int) ≤ g 8 (h 43 33).toNat → h 65 (13 * i + j) = dE g k (h 43 33).toNat i j
def qNear (g h0 : HP) (w : Int) (k : Nat) (n : Int) (h : HP) : Prop := nrF h0 h ∧ nnP g w k n (h 43 33) (h 43 34) ∧ tbM g h k
set_option maxRecDepth 100000 in
set_option maxHeartbeats 4000000 in
theorem l_Model_nearest (g h0 : HP) (w : Int) (k : Nat) (hC : CI g) (hm : CM g h0) (hk : (k : Int) < g 19 5) (h80 : g 23 k ≤ 80) : ∀ (d : Nat) (q : Int) (h : HP) (x5 x6 : Option AV), g 6 3 - q < d → 0 ≤ q → q ≤ g 6 3 → qNear g h0 w k q h → Wn Z4 mModel_nearest SH0 8 [some (.inr (.inr 43)), some (.inl (g 22 k)), some (.inl (g 23 k)), some (.inl w), some (.inl q), x5, x6] [] h (rtV (qNear g h0 w k (g 6 3))) := by
  obtain ⟨⟨k1, k2, k3⟩, k4⟩ := ty_in hC.2.2.2.2 hk
  have h90 := hC.2.1.2.1
  intro d
  induction d with
  | zero => intro q h x5 x6 h1 h2 h3; omega
  | succ d ih =>
    intro q h x5 x6 h1 h2 h3 h4
    obtain ⟨f1, f2, f3⟩ := h4
    have hm' := hm.ms (MS.nr f1)
    have e6 := hm'.2.1.1
    obtain ⟨n1, n2, n3⟩ := nnP_s h2 f2
    have eq : ((q.toNat : Nat) : Int) = q := by omega
    refine go [8,87] 400 (k := ?_)
    simp (config := {maxSteps := 1000000}) only [↓pI_c, ↓pR_c, ↓pJ_c, ↓pV_c, ↓popN_0, ↓popN_s, ↓lI_0, ↓lR_0, ↓lJ_0, ↓lI_s, ↓lR_s, ↓lJ_s, ↓okSt_0, ↓okSt_I, ↓okSt_R, ↓okSt_N, ↓okSt_s, ↓rtI_s, ↓rtV_n, ↓brP_t, ↓brP_f, ↓sModel_nearest_0, ↓sModel_nearest_1, ↓sModel_nearest_2, ↓rf_43_33, ↓sModel_nearest_5, ↓sModel_nearest_6, ↓sModel_nearest_8, ↓sModel_nearest_10, ↓sModel_nearest_11, ↓rf_43_6, ↓sModel_nearest_14, ↓sModel_nearest_17, ↓sModel_nearest_18, ↓rf_43_9, ↓sModel_nearest_21, ↓sModel_nearest_23, ↓sModel_nearest_24, ↓sModel_nearest_25, ↓sModel_nearest_28, ↓sModel_nearest_29, ↓sModel_nearest_30, ↓sModel_nearest_31, ↓sModel_nearest_33, ↓sModel_nearest_36, ↓sModel_nearest_37, ↓rf_43_31, ↓sModel_nearest_40, ↓sModel_nearest_42, ↓sModel_nearest_43, ↓sModel_nearest_44, ↓sModel_nearest_45, ↓rf_43_8, ↓sModel_nearest_48, ↓sModel_nearest_50, ↓sModel_nearest_51, ↓sModel_nearest_52, ↓sModel_nearest_53, ↓sModel_nearest_55, ↓sModel_nearest_56, ↓sModel_nearest_59, ↓sModel_nearest_60, ↓sModel_nearest_63, ↓sModel_nearest_65, ↓sModel_nearest_66, ↓rf_43_34, ↓sModel_nearest_69, ↓sModel_nearest_72, ↓sModel_nearest_73, ↓sModel_nearest_75, ↓sModel_nearest_78, ↓sModel_nearest_79, ↓sModel_nearest_81, ↓sModel_nearest_84, ↓sModel_nearest_85, ↓sModel_nearest_87, ↓sModel_nearest_89, ↓sModel_nearest_92, ↓sModel_nearest_95, ↓sModel_nearest_96, ↓rf_43_32, ↓sModel_nearest_99, ↓sModel_nearest_101, ↓sModel_nearest_102, ↓sModel_nearest_105, ↓sModel_nearest_107, ↓sModel_nearest_108, ↓sModel_nearest_109, ↓sModel_nearest_112, ↓sModel_nearest_115, ↓sModel_nearest_118, ↓sModel_nearest_121, ↓ln_49, ↓ln_50, ↓ln_64, ↓ln_65, List.set_cons_zero, List.set_cons_succ, List.length_cons, List.length_nil, List.contains_cons, List.contains_nil, cat1, brP_d, true_and, and_true, not_false_eq_true, not_true_eq_false, if_true, if_false, Bool.or_false, Bool.false_or, Bool.or_true, Bool.true_or, Bool.false_eq_true, Bool.or_self, false_implies, true_implies, forall_const, and_self, implies_true, true_or, or_true, or_false, false_or, or_self, Classical.not_not, Int.reduceAdd, Int.reduceSub, Int.reduceMul, Int.reduceNeg, Int.reduceToNat, Int.reduceLT, Int.reduceLE, Int.reduceEq, Int.reduceNe, Int.reduceNatCast', Nat.reduceAdd, Nat.reduceSub, Nat.reduceLeDiff, Nat.reduceLT, Nat.reduceEqDiff, Nat.reduceBEq, reduceIte, nx_w, nx_c, up_n, up_s, up_f, ne_eq, Nat.reduceEqDiff, Option.some.injEq, Prod.mk.injEq, exists_eq_left', reduceCtorEq, ob_43, e6]
    rw [wr_id (x := q + 1) (by omega) (by omega)]
    refine ⟨fun h6 => ?_, fun h6 => ⟨by omega, ?_⟩⟩
    · rw [show q = g 6 3 by omega] at f2
      exact ⟨f1, f2, f3⟩
    · have e50 := (hm'.2.1.2 q.toNat (by omega)).2.1
      have e49 := (hm'.2.1.2 q.toNat (by omega)).1
      have hnq := nm_in hC.2.1 (n := q.toNat) (by omega)
      rw [e50]
      refine ⟨fun h7 => ih (q + 1) h _ _ (by omega) (by omega) (by omega) ⟨f1, n1 h7, f3⟩, fun h7 => ?_⟩
      have rk := t_Model_reckon g h k q.toNat hC hm' hk h80 (by omega)
      rw [eq] at rk
      refine trV_use rk ?_
      rintro h' ⟨r1, r2⟩
      have hn1 := hnq.1
      have g49 : h' 49 q.toNat = g 8 q.toNat := by rw [r1 49 (by decide)]; exact e49
      have g33 : h' 43 33 = h 43 33 := by rw [r1 43 (by decide)]
      have g34 : h' 43 34 = h 43 34 := by rw [r1 43 (by decide)]
      have efar : h' 64 (13 * g 23 k + g 8 q.toNat).toNat = dN g k q.toNat := by
        rw [show (13 * g 23 k + g 8 q.toNat).toNat = 13 * (g 23 k).toNat + (g 8 q.toNat).toNat by omega]
        exact r2 _ _ (by omega) (by omega) (by omega)
      rw [g49, wr_id (x := 13 * g 23 k) (by omega) (by omega), wr_id (x := 13 * g 23 k + g 8 q.toNat) (by omega) (by omega), efar, g33, g34]
      have fr : nrF h0 h' := ⟨fun a a1 a2 a3 => by rw [r1 a a2]; exact f1.1 a a1 a2 a3, fun b b1 b2 => by rw [r1 43 (by decide)]; exact f1.2 b b1 b2⟩
      have yes : (h 43 33 = -1 ∨ dN g k q.toNat < h 43 34) → Wn Z4 mModel_nearest SH0 87 [some (.inr (.inr 43)), some (.inl (g 22 k)), some (.inl (g 23 k)), some (.inl w), some (.inl q), some (.inl (dN g k q.toNat)), some (.inl 0)] [] (up (up h' 43 33 q) 43 34 (dN g k q.toNat)) (rtV (qNear g h0 w k (g 6 3))) := by
        intro z
        have := c_Model_nearest (up (up h' 43 33 q) 43 34 (dN g k q.toNat)) (g 22 k) (g 23 k) w q (dN g k q.toNat) (rtV (qNear g h0 w k (g 6 3))) (by omega) (fun x6 => ?_) 1054 0 (by omega) (by omega) (by omega)
        · rw [show (0 : Int).toNat = 0 from rfl, cpy_0] at this
          exact this
        · have e33 : cpy (up (up h' 43 33 q) 43 34 (dN g k q.toNat)) 64 65 0 0 1053 43 33 = q := by rw [cpy_ne (by decide), up_f (by decide), up_s]
          have e34 : cpy (up (up h' 43 33 q) 43 34 (dN g k q.toNat)) 64 65 0 0 1053 43 34 = dN g k q.toNat := by rw [cpy_ne (by decide), up_s]
          refine ih (q + 1) _ _ _ (by omega) (by omega) (by omega) ⟨⟨fun a a1 a2 a3 => by rw [cpy_ne a3, up_ne a1, up_ne a1]; exact fr.1 a a1 a2 a3, fun b b1 b2 => by rw [cpy_ne (by decide), up_f b2, up_f b1]; exact fr.2 b b1 b2⟩, by rw [e33, e34]; exact n2 h7 z, ?_⟩
          intro _ i j q1 q2
          rw [e33] at q2 ⊢
          unfold cpy
          rw [if_pos (by omega), up_n (by decide), up_n (by decide), show 0 + (13 * i + j - 0) = 13 * i + j by omega]
          exact r2 i j q1 q2 (by omega)
      refine ⟨by omega, by omega, fun h8 => yes (Or.inl h8), fun h8 => ⟨fun h9 => ?_, fun h9 => yes (Or.inr (by omega))⟩⟩
      refine ih (q + 1) h' _ _ (by omega) (by omega) (by omega) ⟨fr, by rw [g33, g34]; exact n3 h7 h8 (by omega), ?_⟩
      unfold tbM
      rw [g33, r1 65 (by decide)]
      exact f3
set_option maxRecDepth 100000 in
set_option maxHeartbeats 4000000 in
theorem t_Model_nearest (g h : HP) (w : Int) (k : Nat) (hC : CI g) (hm : CM g h) (hk : (k : Int) < g 19 5) (h80 : g 23 k ≤ 80) : trV mModel_nearest [.inr (.inr 43), .inl (g 22 k), .inl (g 23 k), .inl w] SH0 h (qNear g h w k (g 6 3)) := by
  refine startV [some (.inr (.inr 43)), some (.inl (g 22 k)), some (.inl (g 23 k)), some (.inl w), none, none, none] mModel_nearest_c (go [8] 400 (k := ?_))
  simp (config := {maxSteps := 1000000}) only [↓pI_c, ↓pR_c, ↓pJ_c, ↓pV_c, ↓popN_0, ↓popN_s, ↓lI_0, ↓lR_0, ↓lJ_0, ↓lI_s, ↓lR_s, ↓lJ_s, ↓okSt_0, ↓okSt_I, ↓okSt_R, ↓okSt_N, ↓okSt_s, ↓rtI_s, ↓rtV_n, ↓brP_t, ↓brP_f, ↓sModel_nearest_0, ↓sModel_nearest_1, ↓sModel_nearest_2, ↓rf_43_33, ↓sModel_nearest_5, ↓sModel_nearest_6, ↓sModel_nearest_8, ↓sModel_nearest_10, ↓sModel_nearest_11, ↓rf_43_6, ↓sModel_nearest_14, ↓sModel_nearest_17, ↓sModel_nearest_18, ↓rf_43_9, ↓sModel_nearest_21, ↓sModel_nearest_23, ↓sModel_nearest_24, ↓sModel_nearest_25, ↓sModel_nearest_28, ↓sModel_nearest_29, ↓sModel_nearest_30, ↓sModel_nearest_31, ↓sModel_nearest_33, ↓sModel_nearest_36, ↓sModel_nearest_37, ↓rf_43_31, ↓sModel_nearest_40, ↓sModel_nearest_42, ↓sModel_nearest_43, ↓sModel_nearest_44, ↓sModel_nearest_45, ↓rf_43_8, ↓sModel_nearest_48, ↓sModel_nearest_50, ↓sModel_nearest_51, ↓sModel_nearest_52, ↓sModel_nearest_53, ↓sModel_nearest_55, ↓sModel_nearest_56, ↓sModel_nearest_59, ↓sModel_nearest_60, ↓sModel_nearest_63, ↓sModel_nearest_65, ↓sModel_nearest_66, ↓rf_43_34, ↓sModel_nearest_69, ↓sModel_nearest_72, ↓sModel_nearest_73, ↓sModel_nearest_75, ↓sModel_nearest_78, ↓sModel_nearest_79, ↓sModel_nearest_81, ↓sModel_nearest_84, ↓sModel_nearest_85, ↓sModel_nearest_87, ↓sModel_nearest_89, ↓sModel_nearest_92, ↓sModel_nearest_95, ↓sModel_nearest_96, ↓rf_43_32, ↓sModel_nearest_99, ↓sModel_nearest_101, ↓sModel_nearest_102, ↓sModel_nearest_105, ↓sModel_nearest_107, ↓sModel_nearest_108, ↓sModel_nearest_109, ↓sModel_nearest_112, ↓sModel_nearest_115, ↓sModel_nearest_118, ↓sModel_nearest_121, ↓ln_49, ↓ln_50, ↓ln_64, ↓ln_65, List.set_cons_zero, List.set_cons_succ, List.length_cons, List.length_nil, List.contains_cons, List.contains_nil, cat1, brP_d, true_and, and_true, not_false_eq_true, not_true_eq_false, if_true, if_false, Bool.or_false, Bool.false_or, Bool.or_true, Bool.true_or, Bool.false_eq_true, Bool.or_self, false_implies, true_implies, forall_const, and_self, implies_true, true_or, or_true, or_false, false_or, or_self, Classical.not_not, Int.reduceAdd, Int.reduceSub, Int.reduceMul, Int.reduceNeg, Int.reduceToNat, Int.reduceLT, Int.reduceLE, Int.reduceEq, Int.reduceNe, Int.reduceNatCast', Nat.reduceAdd, Nat.reduceSub, Nat.reduceLeDiff, Nat.reduceLT, Nat.reduceEqDiff, Nat.reduceBEq, reduceIte, nx_w, nx_c, up_n, up_s, up_f, ne_eq, Nat.reduceEqDiff, Option.some.injEq, Prod.mk.injEq, exists_eq_left', reduceCtorEq, ob_43]
  refine Wt.mono ?_ (l_Model_nearest g (up h 43 33 (-1)) w k hC (hm.ms (MS.rf.up (by decide) rfl)) hk h80 ((g 6 3).toNat + 1) 0 _ _ _ (by have := hC.2.1.1; omega) (by omega) hC.2.1.1 ⟨⟨fun _ _ _ _ => rfl, fun _ _ _ => rfl⟩, Or.inl ⟨up_s, fun i hi => by omega⟩, fun z => absurd up_s z⟩)
  rintro v sh' h' ⟨rfl, hv⟩
  refine ⟨rfl, ?_⟩
  obtain ⟨rfl, ⟨q1, q2⟩, q3⟩ := rtV_ex hv
  exact ⟨⟨fun a a1 a2 a3 => by rw [q1 a a1 a2 a3, up_ne a1], fun b b1 b2 => by rw [q2 b b1 b2, up_f b1]⟩, q3⟩
